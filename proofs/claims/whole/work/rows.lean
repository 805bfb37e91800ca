section
-- ===== PART A: goes FIRST, ahead of the names: the tables' words, and 'selects' of the private methods out of them =====
/-- a private method of a class that the tables say can be made, by its rows of tables_1 -/
def lw_okq (q : MethodName × Nat) : Prop := (q.1.cls ≠ "java/lang/invoke/MethodHandle" ∧ q.1.cls ≠ "java/lang/invoke/VarHandle") ∧ Cond.instantiable q.1.cls q.2 ∈ tables_1 ∧ Cond.privateMethod q.1 ∈ tables_1 ∧ Cond.instanceMethod q.1 ∈ tables_1
theorem lw_p0 : lw_okq (⟨"TillOneOfSort", "refuse", "(I)I"⟩, 10) := ⟨⟨by decide +kernel, by decide +kernel⟩, List.mem_of_getElem? (i := 12) (by decide +kernel), List.mem_of_getElem? (i := 164) (by decide +kernel), List.mem_of_getElem? (i := 165) (by decide +kernel)⟩
theorem lw_p1 : lw_okq (⟨"TillOneOfSort$Text", "endOfDigits", "(III)I"⟩, 2) := ⟨⟨by decide +kernel, by decide +kernel⟩, List.mem_of_getElem? (i := 58) (by decide +kernel), List.mem_of_getElem? (i := 192) (by decide +kernel), List.mem_of_getElem? (i := 193) (by decide +kernel)⟩
theorem lw_p2 : lw_okq (⟨"TillOneOfSort", "tellText", "()I"⟩, 10) := ⟨⟨by decide +kernel, by decide +kernel⟩, List.mem_of_getElem? (i := 12) (by decide +kernel), List.mem_of_getElem? (i := 199) (by decide +kernel), List.mem_of_getElem? (i := 200) (by decide +kernel)⟩
theorem lw_p3 : lw_okq (⟨"TillOneOfSort$Told", "takeLaw", "(II)Z"⟩, 8) := ⟨⟨by decide +kernel, by decide +kernel⟩, List.mem_of_getElem? (i := 20) (by decide +kernel), List.mem_of_getElem? (i := 226) (by decide +kernel), List.mem_of_getElem? (i := 227) (by decide +kernel)⟩
theorem lw_p4 : lw_okq (⟨"TillOneOfSort$Told", "takeFamily", "(LTillOneOfSort$Text;II)Z"⟩, 8) := ⟨⟨by decide +kernel, by decide +kernel⟩, List.mem_of_getElem? (i := 20) (by decide +kernel), List.mem_of_getElem? (i := 240) (by decide +kernel), List.mem_of_getElem? (i := 241) (by decide +kernel)⟩
theorem lw_p5 : lw_okq (⟨"TillOneOfSort", "refuseLong", "(I)J"⟩, 10) := ⟨⟨by decide +kernel, by decide +kernel⟩, List.mem_of_getElem? (i := 12) (by decide +kernel), List.mem_of_getElem? (i := 273) (by decide +kernel), List.mem_of_getElem? (i := 274) (by decide +kernel)⟩
theorem lw_p6 : lw_okq (⟨"TillOneOfSort", "tallyNow", "()LTillOneOfSort$Tally;"⟩, 10) := ⟨⟨by decide +kernel, by decide +kernel⟩, List.mem_of_getElem? (i := 12) (by decide +kernel), List.mem_of_getElem? (i := 278) (by decide +kernel), List.mem_of_getElem? (i := 279) (by decide +kernel)⟩
theorem lw_p7 : lw_okq (⟨"TillOneOfSort", "tallyOf", "(I)LTillOneOfSort$Tally;"⟩, 10) := ⟨⟨by decide +kernel, by decide +kernel⟩, List.mem_of_getElem? (i := 12) (by decide +kernel), List.mem_of_getElem? (i := 282) (by decide +kernel), List.mem_of_getElem? (i := 283) (by decide +kernel)⟩
theorem lw_p8 : lw_okq (⟨"TillOneOfSort$Tally", "goOn", "(IIII)V"⟩, 7) := ⟨⟨by decide +kernel, by decide +kernel⟩, List.mem_of_getElem? (i := 99) (by decide +kernel), List.mem_of_getElem? (i := 309) (by decide +kernel), List.mem_of_getElem? (i := 310) (by decide +kernel)⟩
theorem lw_p9 : lw_okq (⟨"TillOneOfSort", "lastInTwelfths", "()I"⟩, 10) := ⟨⟨by decide +kernel, by decide +kernel⟩, List.mem_of_getElem? (i := 12) (by decide +kernel), List.mem_of_getElem? (i := 394) (by decide +kernel), List.mem_of_getElem? (i := 395) (by decide +kernel)⟩
theorem lw_p10 : lw_okq (⟨"TillOneOfSort", "compareAll", "(II)I"⟩, 10) := ⟨⟨by decide +kernel, by decide +kernel⟩, List.mem_of_getElem? (i := 12) (by decide +kernel), List.mem_of_getElem? (i := 418) (by decide +kernel), List.mem_of_getElem? (i := 419) (by decide +kernel)⟩
theorem lw_p11 : lw_okq (⟨"TillOneOfSort", "countLots", "(III)I"⟩, 10) := ⟨⟨by decide +kernel, by decide +kernel⟩, List.mem_of_getElem? (i := 12) (by decide +kernel), List.mem_of_getElem? (i := 456) (by decide +kernel), List.mem_of_getElem? (i := 457) (by decide +kernel)⟩
theorem lw_p12 : lw_okq (⟨"TillOneOfSortModel", "refuse", "(I)I"⟩, 29) := ⟨⟨by decide +kernel, by decide +kernel⟩, List.mem_of_getElem? (i := 475) (by decide +kernel), List.mem_of_getElem? (i := 576) (by decide +kernel), List.mem_of_getElem? (i := 577) (by decide +kernel)⟩
theorem lw_p13 : lw_okq (⟨"TillOneOfSortModel", "reads", "()I"⟩, 29) := ⟨⟨by decide +kernel, by decide +kernel⟩, List.mem_of_getElem? (i := 475) (by decide +kernel), List.mem_of_getElem? (i := 584) (by decide +kernel), List.mem_of_getElem? (i := 585) (by decide +kernel)⟩
theorem lw_p14 : lw_okq (⟨"TillOneOfSortModel", "readsStatement", "()Z"⟩, 29) := ⟨⟨by decide +kernel, by decide +kernel⟩, List.mem_of_getElem? (i := 475) (by decide +kernel), List.mem_of_getElem? (i := 588) (by decide +kernel), List.mem_of_getElem? (i := 589) (by decide +kernel)⟩
theorem lw_p15 : lw_okq (⟨"TillOneOfSortModel", "sign", "()I"⟩, 29) := ⟨⟨by decide +kernel, by decide +kernel⟩, List.mem_of_getElem? (i := 475) (by decide +kernel), List.mem_of_getElem? (i := 592) (by decide +kernel), List.mem_of_getElem? (i := 593) (by decide +kernel)⟩
def lw_privs_1 : List (MethodName × Nat) := [(⟨"TillOneOfSort", "refuse", "(I)I"⟩, 10), (⟨"TillOneOfSort$Text", "endOfDigits", "(III)I"⟩, 2), (⟨"TillOneOfSort", "tellText", "()I"⟩, 10), (⟨"TillOneOfSort$Told", "takeLaw", "(II)Z"⟩, 8), (⟨"TillOneOfSort$Told", "takeFamily", "(LTillOneOfSort$Text;II)Z"⟩, 8), (⟨"TillOneOfSort", "refuseLong", "(I)J"⟩, 10), (⟨"TillOneOfSort", "tallyNow", "()LTillOneOfSort$Tally;"⟩, 10), (⟨"TillOneOfSort", "tallyOf", "(I)LTillOneOfSort$Tally;"⟩, 10), (⟨"TillOneOfSort$Tally", "goOn", "(IIII)V"⟩, 7), (⟨"TillOneOfSort", "lastInTwelfths", "()I"⟩, 10), (⟨"TillOneOfSort", "compareAll", "(II)I"⟩, 10), (⟨"TillOneOfSort", "countLots", "(III)I"⟩, 10), (⟨"TillOneOfSortModel", "refuse", "(I)I"⟩, 29), (⟨"TillOneOfSortModel", "reads", "()I"⟩, 29), (⟨"TillOneOfSortModel", "readsStatement", "()Z"⟩, 29), (⟨"TillOneOfSortModel", "sign", "()I"⟩, 29)]
theorem lw_r1 : ∀ q ∈ lw_privs_1, lw_okq q := List.forall_mem_cons.mpr ⟨lw_p0, List.forall_mem_cons.mpr ⟨lw_p1, List.forall_mem_cons.mpr ⟨lw_p2, List.forall_mem_cons.mpr ⟨lw_p3, List.forall_mem_cons.mpr ⟨lw_p4, List.forall_mem_cons.mpr ⟨lw_p5, List.forall_mem_cons.mpr ⟨lw_p6, List.forall_mem_cons.mpr ⟨lw_p7, List.forall_mem_cons.mpr ⟨lw_p8, List.forall_mem_cons.mpr ⟨lw_p9, List.forall_mem_cons.mpr ⟨lw_p10, List.forall_mem_cons.mpr ⟨lw_p11, List.forall_mem_cons.mpr ⟨lw_p12, List.forall_mem_cons.mpr ⟨lw_p13, List.forall_mem_cons.mpr ⟨lw_p14, List.forall_mem_cons.mpr ⟨lw_p15, fun _ h => absurd h List.not_mem_nil⟩⟩⟩⟩⟩⟩⟩⟩⟩⟩⟩⟩⟩⟩⟩⟩
theorem lw_p16 : lw_okq (⟨"TillOneOfSortModel", "readsKind", "()Z"⟩, 29) := ⟨⟨by decide +kernel, by decide +kernel⟩, List.mem_of_getElem? (i := 475) (by decide +kernel), List.mem_of_getElem? (i := 596) (by decide +kernel), List.mem_of_getElem? (i := 597) (by decide +kernel)⟩
theorem lw_p17 : lw_okq (⟨"TillOneOfSortModel", "readsNumber", "(II)Z"⟩, 29) := ⟨⟨by decide +kernel, by decide +kernel⟩, List.mem_of_getElem? (i := 475) (by decide +kernel), List.mem_of_getElem? (i := 603) (by decide +kernel), List.mem_of_getElem? (i := 604) (by decide +kernel)⟩
theorem lw_p18 : lw_okq (⟨"TillOneOfSortModel", "readsLean", "()Z"⟩, 29) := ⟨⟨by decide +kernel, by decide +kernel⟩, List.mem_of_getElem? (i := 475) (by decide +kernel), List.mem_of_getElem? (i := 610) (by decide +kernel), List.mem_of_getElem? (i := 611) (by decide +kernel)⟩
theorem lw_p19 : lw_okq (⟨"TillOneOfSortModel", "readsFamily", "()Z"⟩, 29) := ⟨⟨by decide +kernel, by decide +kernel⟩, List.mem_of_getElem? (i := 475) (by decide +kernel), List.mem_of_getElem? (i := 614) (by decide +kernel), List.mem_of_getElem? (i := 615) (by decide +kernel)⟩
theorem lw_p20 : lw_okq (⟨"TillOneOfSortModel", "takes", "(I)Z"⟩, 29) := ⟨⟨by decide +kernel, by decide +kernel⟩, List.mem_of_getElem? (i := 475) (by decide +kernel), List.mem_of_getElem? (i := 618) (by decide +kernel), List.mem_of_getElem? (i := 619) (by decide +kernel)⟩
theorem lw_p21 : lw_okq (⟨"TillOneOfSortModel", "comes", "(I)Z"⟩, 29) := ⟨⟨by decide +kernel, by decide +kernel⟩, List.mem_of_getElem? (i := 475) (by decide +kernel), List.mem_of_getElem? (i := 625) (by decide +kernel), List.mem_of_getElem? (i := 626) (by decide +kernel)⟩
theorem lw_p22 : lw_okq (⟨"TillOneOfSortModel", "refuseWide", "(I)J"⟩, 29) := ⟨⟨by decide +kernel, by decide +kernel⟩, List.mem_of_getElem? (i := 475) (by decide +kernel), List.mem_of_getElem? (i := 651) (by decide +kernel), List.mem_of_getElem? (i := 652) (by decide +kernel)⟩
theorem lw_p23 : lw_okq (⟨"TillOneOfSortModel", "finds", "(I)V"⟩, 29) := ⟨⟨by decide +kernel, by decide +kernel⟩, List.mem_of_getElem? (i := 475) (by decide +kernel), List.mem_of_getElem? (i := 656) (by decide +kernel), List.mem_of_getElem? (i := 657) (by decide +kernel)⟩
theorem lw_p24 : lw_okq (⟨"TillOneOfSortModel", "goesOn", "(IIIIIIJ)V"⟩, 29) := ⟨⟨by decide +kernel, by decide +kernel⟩, List.mem_of_getElem? (i := 475) (by decide +kernel), List.mem_of_getElem? (i := 661) (by decide +kernel), List.mem_of_getElem? (i := 662) (by decide +kernel)⟩
theorem lw_p25 : lw_okq (⟨"TillOneOfSortModel", "endsBy", "(IIII)Z"⟩, 29) := ⟨⟨by decide +kernel, by decide +kernel⟩, List.mem_of_getElem? (i := 475) (by decide +kernel), List.mem_of_getElem? (i := 665) (by decide +kernel), List.mem_of_getElem? (i := 666) (by decide +kernel)⟩
theorem lw_p26 : lw_okq (⟨"TillOneOfSortModel", "isFamily", "(IIJI)V"⟩, 29) := ⟨⟨by decide +kernel, by decide +kernel⟩, List.mem_of_getElem? (i := 475) (by decide +kernel), List.mem_of_getElem? (i := 669) (by decide +kernel), List.mem_of_getElem? (i := 670) (by decide +kernel)⟩
theorem lw_p27 : lw_okq (⟨"TillOneOfSortModel", "twelfths", "(I)I"⟩, 29) := ⟨⟨by decide +kernel, by decide +kernel⟩, List.mem_of_getElem? (i := 475) (by decide +kernel), List.mem_of_getElem? (i := 673) (by decide +kernel), List.mem_of_getElem? (i := 674) (by decide +kernel)⟩
theorem lw_p28 : lw_okq (⟨"TillOneOfSortModel", "triedBy", "(IIIIJ)J"⟩, 29) := ⟨⟨by decide +kernel, by decide +kernel⟩, List.mem_of_getElem? (i := 475) (by decide +kernel), List.mem_of_getElem? (i := 712) (by decide +kernel), List.mem_of_getElem? (i := 713) (by decide +kernel)⟩
theorem lw_p29 : lw_okq (⟨"TillOneOfSortModel", "stopOf", "(III)I"⟩, 29) := ⟨⟨by decide +kernel, by decide +kernel⟩, List.mem_of_getElem? (i := 475) (by decide +kernel), List.mem_of_getElem? (i := 724) (by decide +kernel), List.mem_of_getElem? (i := 725) (by decide +kernel)⟩
theorem lw_p30 : lw_okq (⟨"TillOneOfSortModel", "manyOf", "(I)I"⟩, 29) := ⟨⟨by decide +kernel, by decide +kernel⟩, List.mem_of_getElem? (i := 475) (by decide +kernel), List.mem_of_getElem? (i := 739) (by decide +kernel), List.mem_of_getElem? (i := 740) (by decide +kernel)⟩
theorem lw_p31 : lw_okq (⟨"TillOneOfSortModel", "sortsOf", "(I)I"⟩, 29) := ⟨⟨by decide +kernel, by decide +kernel⟩, List.mem_of_getElem? (i := 475) (by decide +kernel), List.mem_of_getElem? (i := 743) (by decide +kernel), List.mem_of_getElem? (i := 744) (by decide +kernel)⟩
def lw_privs_2 : List (MethodName × Nat) := [(⟨"TillOneOfSortModel", "readsKind", "()Z"⟩, 29), (⟨"TillOneOfSortModel", "readsNumber", "(II)Z"⟩, 29), (⟨"TillOneOfSortModel", "readsLean", "()Z"⟩, 29), (⟨"TillOneOfSortModel", "readsFamily", "()Z"⟩, 29), (⟨"TillOneOfSortModel", "takes", "(I)Z"⟩, 29), (⟨"TillOneOfSortModel", "comes", "(I)Z"⟩, 29), (⟨"TillOneOfSortModel", "refuseWide", "(I)J"⟩, 29), (⟨"TillOneOfSortModel", "finds", "(I)V"⟩, 29), (⟨"TillOneOfSortModel", "goesOn", "(IIIIIIJ)V"⟩, 29), (⟨"TillOneOfSortModel", "endsBy", "(IIII)Z"⟩, 29), (⟨"TillOneOfSortModel", "isFamily", "(IIJI)V"⟩, 29), (⟨"TillOneOfSortModel", "twelfths", "(I)I"⟩, 29), (⟨"TillOneOfSortModel", "triedBy", "(IIIIJ)J"⟩, 29), (⟨"TillOneOfSortModel", "stopOf", "(III)I"⟩, 29), (⟨"TillOneOfSortModel", "manyOf", "(I)I"⟩, 29), (⟨"TillOneOfSortModel", "sortsOf", "(I)I"⟩, 29)]
theorem lw_r2 : ∀ q ∈ lw_privs_2, lw_okq q := List.forall_mem_cons.mpr ⟨lw_p16, List.forall_mem_cons.mpr ⟨lw_p17, List.forall_mem_cons.mpr ⟨lw_p18, List.forall_mem_cons.mpr ⟨lw_p19, List.forall_mem_cons.mpr ⟨lw_p20, List.forall_mem_cons.mpr ⟨lw_p21, List.forall_mem_cons.mpr ⟨lw_p22, List.forall_mem_cons.mpr ⟨lw_p23, List.forall_mem_cons.mpr ⟨lw_p24, List.forall_mem_cons.mpr ⟨lw_p25, List.forall_mem_cons.mpr ⟨lw_p26, List.forall_mem_cons.mpr ⟨lw_p27, List.forall_mem_cons.mpr ⟨lw_p28, List.forall_mem_cons.mpr ⟨lw_p29, List.forall_mem_cons.mpr ⟨lw_p30, List.forall_mem_cons.mpr ⟨lw_p31, fun _ h => absurd h List.not_mem_nil⟩⟩⟩⟩⟩⟩⟩⟩⟩⟩⟩⟩⟩⟩⟩⟩
theorem lw_p32 : lw_okq (⟨"TillOneOfSortModel", "drawn", "(I)I"⟩, 29) := ⟨⟨by decide +kernel, by decide +kernel⟩, List.mem_of_getElem? (i := 475) (by decide +kernel), List.mem_of_getElem? (i := 763) (by decide +kernel), List.mem_of_getElem? (i := 764) (by decide +kernel)⟩
def lw_privs_3 : List (MethodName × Nat) := [(⟨"TillOneOfSortModel", "drawn", "(I)I"⟩, 29)]
theorem lw_r3 : ∀ q ∈ lw_privs_3, lw_okq q := List.forall_mem_cons.mpr ⟨lw_p32, fun _ h => absurd h List.not_mem_nil⟩
def lw_privs : List (MethodName × Nat) := lw_privs_1 ++ (lw_privs_2 ++ (lw_privs_3))
def lw_tbl : List Cond := k2_sels lw_privs ++ tables_1
theorem lw_privs_ok : ∀ q ∈ lw_privs, lw_okq q := by
  show ∀ q ∈ lw_privs_1 ++ (lw_privs_2 ++ (lw_privs_3)), lw_okq q
  exact List.forall_mem_append.mpr ⟨lw_r1, List.forall_mem_append.mpr ⟨lw_r2, lw_r3⟩⟩
end
section
/-! ===== BEGIN words of one list among another's, by their places ===== -/
theorem goodIn_r {big : List Cond} (ws : List Cond) (ps : List Nat) (hp : ws = ps.filterMap (fun i => big[i]?)) (h : ws.all goodWord = true) : GoodIn big ws := by
  intro w hw
  have h1 := List.all_eq_true.mp h w hw
  rw [hp] at hw
  obtain ⟨i, -, hi⟩ := List.mem_filterMap.mp hw
  have hm : w ∈ big := by first | exact List.mem_of_getElem? hi | exact List.getElem?_mem hi
  exact ⟨hm, good_of_word h1⟩
theorem goodIn_app {big a b : List Cond} (ha : GoodIn big a) (hb : GoodIn big b) : GoodIn big (a ++ b) := fun w h => (List.mem_append.mp h).elim (ha w) (hb w)
theorem goodIn_ca {big a b : List Cond} {c : Cond} (ha : GoodIn big (c :: a)) (hb : GoodIn big b) : GoodIn big (c :: (a ++ b)) := fun w h => (List.mem_cons.mp h).elim (fun e => ha w (List.mem_cons.mpr (Or.inl e))) (fun h => (List.mem_append.mp h).elim (fun h => ha w (List.mem_cons.mpr (Or.inr h))) (hb w))
theorem goodIn_sub {big ws : List Cond} (hm : ∀ w ∈ ws, w ∈ big) (h : ws.all goodWord = true) : GoodIn big ws := fun w hw => ⟨hm w hw, good_of_word (List.all_eq_true.mp h w hw)⟩
/-! ===== END ===== -/

/-! ===== BEGIN printed: names, fields, word lists, decode rows ===== -/
def RX0 : String := "TillOneOfSort$Cells"
def TX0 : u_T := fun k => match k with
  | _ => ("TillOneOfSort$Cells", "cells", "[J", true)
def tyX0 : Nat → FieldType := fun k => match k with
  | _ => .array .long
abbrev wsX00 : List Cond := u_ws RX0 TX0 1
theorem nmX0 : ∀ a, a < 1 → ∀ b, b < 1 → a ≠ b → (TX0 a).2.1 ≠ (TX0 b).2.1 := by decide +kernel
theorem tyX0_ok : ∀ k, k < 1 → parseFieldDescriptor (TX0 k).2.2.1 = some (tyX0 k) := by decide +kernel
abbrev cX0_init : ByteArray := prog_2_method_1_code
def yX0_init : MethodName := ⟨RX0, "<init>", "()V"⟩
abbrev cX0_placeOf : ByteArray := prog_2_method_2_code
def yX0_placeOf : MethodName := ⟨RX0, "placeOf", "(III)I"⟩
abbrev cX0_at : ByteArray := prog_2_method_3_code
def yX0_at : MethodName := ⟨RX0, "at", "(III)J"⟩
abbrev cX0_add : ByteArray := prog_2_method_4_code
def yX0_add : MethodName := ⟨RX0, "add", "(IIIJ)V"⟩
abbrev cX0_clear : ByteArray := prog_2_method_5_code
def yX0_clear : MethodName := ⟨RX0, "clear", "()V"⟩
def RX1 : String := "TillOneOfSort$Tally"
def TX1 : u_T := fun k => match k with
  | 0 => ("TillOneOfSort$Tally", "walk", "LTillOneOfSort$Walk;", true)
  | 1 => ("TillOneOfSort$Tally", "ends", "LTillOneOfSort$Cells;", true)
  | 2 => ("TillOneOfSort$Tally", "kind", "I", false)
  | 3 => ("TillOneOfSort$Tally", "figure", "I", false)
  | 4 => ("TillOneOfSort$Tally", "most", "I", false)
  | 5 => ("TillOneOfSort$Tally", "chance", "I", false)
  | _ => ("TillOneOfSort$Tally", "lean", "I", false)
def tyX1 : Nat → FieldType := fun k => match k with
  | 0 => .object "TillOneOfSort$Walk"
  | 1 => .object "TillOneOfSort$Cells"
  | 2 => .int
  | 3 => .int
  | 4 => .int
  | 5 => .int
  | _ => .int
abbrev wsX10 : List Cond := u_ws RX1 TX1 7
theorem nmX1 : ∀ a, a < 7 → ∀ b, b < 7 → a ≠ b → (TX1 a).2.1 ≠ (TX1 b).2.1 := by decide +kernel
theorem tyX1_ok : ∀ k, k < 7 → parseFieldDescriptor (TX1 k).2.2.1 = some (tyX1 k) := by decide +kernel
abbrev cX1_init : ByteArray := prog_3_method_1_code
def yX1_init : MethodName := ⟨RX1, "<init>", "(LTillOneOfSort$Walk;)V"⟩
abbrev cX1_retell : ByteArray := prog_3_method_2_code
def yX1_retell : MethodName := ⟨RX1, "retell", "(IIIII)V"⟩
abbrev cX1_goOn : ByteArray := prog_3_method_3_code
def yX1_goOn : MethodName := ⟨RX1, "goOn", "(IIII)V"⟩
abbrev cX1_families : ByteArray := prog_3_method_4_code
def yX1_families : MethodName := ⟨RX1, "families", "(II)J"⟩
abbrev cX1_familiesFrom : ByteArray := prog_3_method_5_code
def yX1_familiesFrom : MethodName := ⟨RX1, "familiesFrom", "(III)J"⟩
abbrev cX1_sum : ByteArray := prog_3_method_6_code
def yX1_sum : MethodName := ⟨RX1, "sum", "(II)J"⟩
abbrev cX1_measured : ByteArray := prog_3_method_7_code
def yX1_measured : MethodName := ⟨RX1, "measured", "(IIII)J"⟩
def RX2 : String := "TillOneOfSort$Text"
def TX2 : u_T := fun k => match k with
  | 0 => ("TillOneOfSort$Text", "letters", "[I", true)
  | _ => ("TillOneOfSort$Text", "length", "I", false)
def tyX2 : Nat → FieldType := fun k => match k with
  | 0 => .array .int
  | _ => .int
abbrev wsX20 : List Cond := u_ws RX2 TX2 2
theorem nmX2 : ∀ a, a < 2 → ∀ b, b < 2 → a ≠ b → (TX2 a).2.1 ≠ (TX2 b).2.1 := by decide +kernel
theorem tyX2_ok : ∀ k, k < 2 → parseFieldDescriptor (TX2 k).2.2.1 = some (tyX2 k) := by decide +kernel
abbrev cX2_init : ByteArray := prog_4_method_1_code
def yX2_init : MethodName := ⟨RX2, "<init>", "()V"⟩
abbrev cX2_append : ByteArray := prog_4_method_2_code
def yX2_append : MethodName := ⟨RX2, "append", "(I)V"⟩
abbrev cX2_at : ByteArray := prog_4_method_3_code
def yX2_at : MethodName := ⟨RX2, "at", "(I)I"⟩
abbrev cX2_firstFault : ByteArray := prog_4_method_4_code
def yX2_firstFault : MethodName := ⟨RX2, "firstFault", "()I"⟩
abbrev cX2_endOfStatement : ByteArray := prog_4_method_5_code
def yX2_endOfStatement : MethodName := ⟨RX2, "endOfStatement", "(I)I"⟩
abbrev cX2_isSign : ByteArray := prog_4_method_6_code
def yX2_isSign : MethodName := ⟨RX2, "isSign", "(I)Z"⟩
abbrev cX2_endOfDigits : ByteArray := prog_4_method_7_code
def yX2_endOfDigits : MethodName := ⟨RX2, "endOfDigits", "(III)I"⟩
abbrev cX2_kindAt : ByteArray := prog_4_method_8_code
def yX2_kindAt : MethodName := ⟨RX2, "kindAt", "(I)I"⟩
abbrev cX2_numberAt : ByteArray := prog_4_method_9_code
def yX2_numberAt : MethodName := ⟨RX2, "numberAt", "(II)I"⟩
def RX3 : String := "TillOneOfSort$Told"
def TX3 : u_T := fun k => match k with
  | 0 => ("TillOneOfSort$Told", "kind", "I", false)
  | 1 => ("TillOneOfSort$Told", "figure", "I", false)
  | 2 => ("TillOneOfSort$Told", "most", "I", false)
  | 3 => ("TillOneOfSort$Told", "chance", "I", false)
  | 4 => ("TillOneOfSort$Told", "lean", "I", false)
  | 5 => ("TillOneOfSort$Told", "families", "I", false)
  | 6 => ("TillOneOfSort$Told", "lengths", "[I", true)
  | _ => ("TillOneOfSort$Told", "sorts", "[I", true)
def tyX3 : Nat → FieldType := fun k => match k with
  | 0 => .int
  | 1 => .int
  | 2 => .int
  | 3 => .int
  | 4 => .int
  | 5 => .int
  | 6 => .array .int
  | _ => .array .int
abbrev wsX30 : List Cond := u_ws RX3 TX3 8
theorem nmX3 : ∀ a, a < 8 → ∀ b, b < 8 → a ≠ b → (TX3 a).2.1 ≠ (TX3 b).2.1 := by decide +kernel
theorem tyX3_ok : ∀ k, k < 8 → parseFieldDescriptor (TX3 k).2.2.1 = some (tyX3 k) := by decide +kernel
abbrev cX3_init : ByteArray := prog_5_method_1_code
def yX3_init : MethodName := ⟨RX3, "<init>", "()V"⟩
abbrev cX3_copy : ByteArray := prog_5_method_2_code
def yX3_copy : MethodName := ⟨RX3, "copy", "(LTillOneOfSort$Told;)V"⟩
abbrev cX3_least : ByteArray := prog_5_method_3_code
def yX3_least : MethodName := ⟨RX3, "least", "(I)I"⟩
abbrev cX3_greatest : ByteArray := prog_5_method_4_code
def yX3_greatest : MethodName := ⟨RX3, "greatest", "(I)I"⟩
abbrev cX3_number : ByteArray := prog_5_method_5_code
def yX3_number : MethodName := ⟨RX3, "number", "(I)I"⟩
abbrev cX3_tellNumber : ByteArray := prog_5_method_6_code
def yX3_tellNumber : MethodName := ⟨RX3, "tellNumber", "(II)Z"⟩
abbrev cX3_take : ByteArray := prog_5_method_7_code
def yX3_take : MethodName := ⟨RX3, "take", "(LTillOneOfSort$Text;II)Z"⟩
abbrev cX3_takeLaw : ByteArray := prog_5_method_8_code
def yX3_takeLaw : MethodName := ⟨RX3, "takeLaw", "(II)Z"⟩
abbrev cX3_takeFamily : ByteArray := prog_5_method_9_code
def yX3_takeFamily : MethodName := ⟨RX3, "takeFamily", "(LTillOneOfSort$Text;II)Z"⟩
abbrev cX3_lengthOf : ByteArray := prog_5_method_10_code
def yX3_lengthOf : MethodName := ⟨RX3, "lengthOf", "(I)I"⟩
abbrev cX3_sortsOf : ByteArray := prog_5_method_11_code
def yX3_sortsOf : MethodName := ⟨RX3, "sortsOf", "(I)I"⟩
abbrev cX3_stopPlace : ByteArray := prog_5_method_12_code
def yX3_stopPlace : MethodName := ⟨RX3, "stopPlace", "(III)I"⟩
abbrev cX3_endsAllSeen : ByteArray := prog_5_method_13_code
def yX3_endsAllSeen : MethodName := ⟨RX3, "endsAllSeen", "(I)Z"⟩
abbrev cX3_countStoppedAhead : ByteArray := prog_5_method_14_code
def yX3_countStoppedAhead : MethodName := ⟨RX3, "countStoppedAhead", "(I)I"⟩
def RX4 : String := "TillOneOfSort$Walk"
def TX4 : u_T := fun k => match k with
  | 0 => ("TillOneOfSort$Walk", "here", "LTillOneOfSort$Cells;", false)
  | _ => ("TillOneOfSort$Walk", "next", "LTillOneOfSort$Cells;", false)
def tyX4 : Nat → FieldType := fun k => match k with
  | 0 => .object "TillOneOfSort$Cells"
  | _ => .object "TillOneOfSort$Cells"
abbrev wsX40 : List Cond := u_ws RX4 TX4 2
theorem nmX4 : ∀ a, a < 2 → ∀ b, b < 2 → a ≠ b → (TX4 a).2.1 ≠ (TX4 b).2.1 := by decide +kernel
theorem tyX4_ok : ∀ k, k < 2 → parseFieldDescriptor (TX4 k).2.2.1 = some (tyX4 k) := by decide +kernel
abbrev cX4_init : ByteArray := prog_6_method_1_code
def yX4_init : MethodName := ⟨RX4, "<init>", "()V"⟩
abbrev cX4_begin : ByteArray := prog_6_method_2_code
def yX4_begin : MethodName := ⟨RX4, "begin", "(I)V"⟩
abbrev cX4_stepOn : ByteArray := prog_6_method_3_code
def yX4_stepOn : MethodName := ⟨RX4, "stepOn", "()V"⟩
def RX5 : String := "TillOneOfSort"
def TX5 : u_T := fun k => match k with
  | 0 => ("TillOneOfSort", "told", "LTillOneOfSort$Told;", true)
  | 1 => ("TillOneOfSort", "draft", "LTillOneOfSort$Told;", true)
  | 2 => ("TillOneOfSort", "kept", "LTillOneOfSort$Told;", true)
  | 3 => ("TillOneOfSort", "isKept", "Z", false)
  | 4 => ("TillOneOfSort", "text", "LTillOneOfSort$Text;", true)
  | 5 => ("TillOneOfSort", "rowLength", "I", false)
  | 6 => ("TillOneOfSort", "rowSorts", "I", false)
  | 7 => ("TillOneOfSort", "refusals", "[I", true)
  | 8 => ("TillOneOfSort", "tallies", "[LTillOneOfSort$Tally;", true)
  | _ => ("TillOneOfSort", "spare", "LTillOneOfSort$Tally;", true)
def tyX5 : Nat → FieldType := fun k => match k with
  | 0 => .object "TillOneOfSort$Told"
  | 1 => .object "TillOneOfSort$Told"
  | 2 => .object "TillOneOfSort$Told"
  | 3 => .boolean
  | 4 => .object "TillOneOfSort$Text"
  | 5 => .int
  | 6 => .int
  | 7 => .array .int
  | 8 => .array (.object "TillOneOfSort$Tally")
  | _ => .object "TillOneOfSort$Tally"
abbrev wsX50 : List Cond := u_ws RX5 TX5 10
theorem nmX5 : ∀ a, a < 10 → ∀ b, b < 10 → a ≠ b → (TX5 a).2.1 ≠ (TX5 b).2.1 := by decide +kernel
theorem tyX5_ok : ∀ k, k < 10 → parseFieldDescriptor (TX5 k).2.2.1 = some (tyX5 k) := by decide +kernel
abbrev cX5_init : ByteArray := prog_1_method_1_code
def yX5_init : MethodName := ⟨RX5, "<init>", "()V"⟩
abbrev cX5_letter : ByteArray := prog_1_method_2_code
def yX5_letter : MethodName := ⟨RX5, "letter", "(I)I"⟩
abbrev cX5_land : ByteArray := prog_1_method_3_code
def yX5_land : MethodName := ⟨RX5, "land", "()I"⟩
abbrev cX5_law : ByteArray := prog_1_method_4_code
def yX5_law : MethodName := ⟨RX5, "law", "(II)I"⟩
abbrev cX5_set : ByteArray := prog_1_method_5_code
def yX5_set : MethodName := ⟨RX5, "set", "(II)I"⟩
abbrev cX5_stops : ByteArray := prog_1_method_6_code
def yX5_stops : MethodName := ⟨RX5, "stops", "(III)I"⟩
abbrev cX5_mean : ByteArray := prog_1_method_7_code
def yX5_mean : MethodName := ⟨RX5, "mean", "(II)J"⟩
abbrev cX5_share : ByteArray := prog_1_method_8_code
def yX5_share : MethodName := ⟨RX5, "share", "(I)J"⟩
abbrev cX5_all : ByteArray := prog_1_method_9_code
def yX5_all : MethodName := ⟨RX5, "all", "(I)J"⟩
abbrev cX5_more : ByteArray := prog_1_method_10_code
def yX5_more : MethodName := ⟨RX5, "more", "(II)J"⟩
abbrev cX5_size : ByteArray := prog_1_method_11_code
def yX5_size : MethodName := ⟨RX5, "size", "(II)J"⟩
abbrev cX5_met : ByteArray := prog_1_method_12_code
def yX5_met : MethodName := ⟨RX5, "met", "(II)J"⟩
abbrev cX5_says : ByteArray := prog_1_method_13_code
def yX5_says : MethodName := ⟨RX5, "says", "(IIIII)J"⟩
abbrev cX5_trial : ByteArray := prog_1_method_14_code
def yX5_trial : MethodName := ⟨RX5, "trial", "(III)J"⟩
abbrev cX5_row : ByteArray := prog_1_method_15_code
def yX5_row : MethodName := ⟨RX5, "row", "(I)I"⟩
abbrev cX5_gone : ByteArray := prog_1_method_16_code
def yX5_gone : MethodName := ⟨RX5, "gone", "(I)J"⟩
abbrev cX5_shift : ByteArray := prog_1_method_17_code
def yX5_shift : MethodName := ⟨RX5, "shift", "(I)I"⟩
abbrev cX5_fits : ByteArray := prog_1_method_18_code
def yX5_fits : MethodName := ⟨RX5, "fits", "(I)I"⟩
abbrev cX5_judge : ByteArray := prog_1_method_19_code
def yX5_judge : MethodName := ⟨RX5, "judge", "()I"⟩
abbrev cX5_seen : ByteArray := prog_1_method_20_code
def yX5_seen : MethodName := ⟨RX5, "seen", "(II)I"⟩
abbrev cX5_cheats : ByteArray := prog_1_method_21_code
def yX5_cheats : MethodName := ⟨RX5, "cheats", "()I"⟩
abbrev cX5_lots : ByteArray := prog_1_method_22_code
def yX5_lots : MethodName := ⟨RX5, "lots", "(III)I"⟩
abbrev cX5_image : ByteArray := prog_1_method_23_code
def yX5_image : MethodName := ⟨RX5, "image", "()I"⟩
abbrev cX5_on : ByteArray := prog_1_method_24_code
def yX5_on : MethodName := ⟨RX5, "on", "()I"⟩
abbrev cX5_count : ByteArray := prog_1_method_25_code
def yX5_count : MethodName := ⟨RX5, "count", "(I)I"⟩
abbrev cX5_refuse : ByteArray := prog_1_method_26_code
def yX5_refuse : MethodName := ⟨RX5, "refuse", "(I)I"⟩
abbrev cX5_refuseLong : ByteArray := prog_1_method_27_code
def yX5_refuseLong : MethodName := ⟨RX5, "refuseLong", "(I)J"⟩
abbrev cX5_isNoSort : ByteArray := prog_1_method_28_code
def yX5_isNoSort : MethodName := ⟨RX5, "isNoSort", "(I)Z"⟩
abbrev cX5_tellText : ByteArray := prog_1_method_29_code
def yX5_tellText : MethodName := ⟨RX5, "tellText", "()I"⟩
abbrev cX5_tallyNow : ByteArray := prog_1_method_30_code
def yX5_tallyNow : MethodName := ⟨RX5, "tallyNow", "()LTillOneOfSort$Tally;"⟩
abbrev cX5_tallyOf : ByteArray := prog_1_method_31_code
def yX5_tallyOf : MethodName := ⟨RX5, "tallyOf", "(I)LTillOneOfSort$Tally;"⟩
abbrev cX5_compareAll : ByteArray := prog_1_method_32_code
def yX5_compareAll : MethodName := ⟨RX5, "compareAll", "(II)I"⟩
abbrev cX5_lastInTwelfths : ByteArray := prog_1_method_33_code
def yX5_lastInTwelfths : MethodName := ⟨RX5, "lastInTwelfths", "()I"⟩
abbrev cX5_countLots : ByteArray := prog_1_method_34_code
def yX5_countLots : MethodName := ⟨RX5, "countLots", "(III)I"⟩
abbrev cX5_latestOnes : ByteArray := prog_1_method_35_code
def yX5_latestOnes : MethodName := ⟨RX5, "latestOnes", "(II)I"⟩
abbrev cX5_lawStops : ByteArray := prog_1_method_36_code
def yX5_lawStops : MethodName := ⟨RX5, "lawStops", "(IIIII)Z"⟩
abbrev cX5_chanceOfOne : ByteArray := prog_1_method_37_code
def yX5_chanceOfOne : MethodName := ⟨RX5, "chanceOfOne", "(IIII)I"⟩
abbrev cX5_fraction : ByteArray := prog_1_method_38_code
def yX5_fraction : MethodName := ⟨RX5, "fraction", "(JJI)J"⟩
abbrev cX5_greatestDivisor : ByteArray := prog_1_method_39_code
def yX5_greatestDivisor : MethodName := ⟨RX5, "greatestDivisor", "(JJ)J"⟩
abbrev cX5_compareFractions : ByteArray := prog_1_method_40_code
def yX5_compareFractions : MethodName := ⟨RX5, "compareFractions", "(JJJJ)I"⟩
def RX6 : String := "TillOneOfSortModel"
def TX6 : u_T := fun k => match k with
  | 0 => ("TillOneOfSortModel", "refusals", "[I", true)
  | 1 => ("TillOneOfSortModel", "s", "[I", true)
  | 2 => ("TillOneOfSortModel", "image", "[I", true)
  | 3 => ("TillOneOfSortModel", "read", "[I", true)
  | 4 => ("TillOneOfSortModel", "isImage", "Z", false)
  | 5 => ("TillOneOfSortModel", "tape", "[I", true)
  | 6 => ("TillOneOfSortModel", "told", "[I", true)
  | 7 => ("TillOneOfSortModel", "taped", "I", false)
  | 8 => ("TillOneOfSortModel", "at", "I", false)
  | 9 => ("TillOneOfSortModel", "whole", "J", false)
  | 10 => ("TillOneOfSortModel", "children", "J", false)
  | 11 => ("TillOneOfSortModel", "ones", "J", false)
  | 12 => ("TillOneOfSortModel", "shares", "J", false)
  | 13 => ("TillOneOfSortModel", "more", "J", false)
  | 14 => ("TillOneOfSortModel", "alike", "J", false)
  | 15 => ("TillOneOfSortModel", "meets", "J", false)
  | 16 => ("TillOneOfSortModel", "pairs", "J", false)
  | 17 => ("TillOneOfSortModel", "says", "J", false)
  | 18 => ("TillOneOfSortModel", "eldest", "J", false)
  | 19 => ("TillOneOfSortModel", "sized", "[J", true)
  | 20 => ("TillOneOfSortModel", "saysSort", "I", false)
  | 21 => ("TillOneOfSortModel", "saysOnes", "I", false)
  | 22 => ("TillOneOfSortModel", "saysZeros", "I", false)
  | 23 => ("TillOneOfSortModel", "lastOnes", "I", false)
  | 24 => ("TillOneOfSortModel", "lastZeros", "I", false)
  | 25 => ("TillOneOfSortModel", "lastRun", "I", false)
  | 26 => ("TillOneOfSortModel", "rowed", "I", false)
  | 27 => ("TillOneOfSortModel", "rowSorts", "I", false)
  | _ => ("TillOneOfSortModel", "seed", "I", false)
def tyX6 : Nat → FieldType := fun k => match k with
  | 0 => .array .int
  | 1 => .array .int
  | 2 => .array .int
  | 3 => .array .int
  | 4 => .boolean
  | 5 => .array .int
  | 6 => .array .int
  | 7 => .int
  | 8 => .int
  | 9 => .long
  | 10 => .long
  | 11 => .long
  | 12 => .long
  | 13 => .long
  | 14 => .long
  | 15 => .long
  | 16 => .long
  | 17 => .long
  | 18 => .long
  | 19 => .array .long
  | 20 => .int
  | 21 => .int
  | 22 => .int
  | 23 => .int
  | 24 => .int
  | 25 => .int
  | 26 => .int
  | 27 => .int
  | _ => .int
abbrev wsX60 : List Cond := u_ws RX6 TX6 29
theorem nmX6 : ∀ a, a < 29 → ∀ b, b < 29 → a ≠ b → (TX6 a).2.1 ≠ (TX6 b).2.1 := by decide +kernel
theorem tyX6_ok : ∀ k, k < 29 → parseFieldDescriptor (TX6 k).2.2.1 = some (tyX6 k) := by decide +kernel
abbrev cX6_init : ByteArray := prog_8_method_1_code
def yX6_init : MethodName := ⟨RX6, "<init>", "()V"⟩
abbrev cX6_refuse : ByteArray := prog_8_method_2_code
def yX6_refuse : MethodName := ⟨RX6, "refuse", "(I)I"⟩
abbrev cX6_refuseWide : ByteArray := prog_8_method_3_code
def yX6_refuseWide : MethodName := ⟨RX6, "refuseWide", "(I)J"⟩
abbrev cX6_isIn : ByteArray := prog_8_method_4_code
def yX6_isIn : MethodName := ⟨RX6, "isIn", "(II)Z"⟩
abbrev cX6_within : ByteArray := prog_8_method_5_code
def yX6_within : MethodName := ⟨RX6, "within", "(III)I"⟩
abbrev cX6_lays : ByteArray := prog_8_method_6_code
def yX6_lays : MethodName := ⟨RX6, "lays", "([I[I)V"⟩
abbrev cX6_letter : ByteArray := prog_8_method_7_code
def yX6_letter : MethodName := ⟨RX6, "letter", "(I)I"⟩
abbrev cX6_sign : ByteArray := prog_8_method_8_code
def yX6_sign : MethodName := ⟨RX6, "sign", "()I"⟩
abbrev cX6_takes : ByteArray := prog_8_method_9_code
def yX6_takes : MethodName := ⟨RX6, "takes", "(I)Z"⟩
abbrev cX6_readsNumber : ByteArray := prog_8_method_10_code
def yX6_readsNumber : MethodName := ⟨RX6, "readsNumber", "(II)Z"⟩
abbrev cX6_kindOf : ByteArray := prog_8_method_11_code
def yX6_kindOf : MethodName := ⟨RX6, "kindOf", "(I)I"⟩
abbrev cX6_readsKind : ByteArray := prog_8_method_12_code
def yX6_readsKind : MethodName := ⟨RX6, "readsKind", "()Z"⟩
abbrev cX6_readsLean : ByteArray := prog_8_method_13_code
def yX6_readsLean : MethodName := ⟨RX6, "readsLean", "()Z"⟩
abbrev cX6_readsFamily : ByteArray := prog_8_method_14_code
def yX6_readsFamily : MethodName := ⟨RX6, "readsFamily", "()Z"⟩
abbrev cX6_readsStatement : ByteArray := prog_8_method_15_code
def yX6_readsStatement : MethodName := ⟨RX6, "readsStatement", "()Z"⟩
abbrev cX6_comes : ByteArray := prog_8_method_16_code
def yX6_comes : MethodName := ⟨RX6, "comes", "(I)Z"⟩
abbrev cX6_reads : ByteArray := prog_8_method_17_code
def yX6_reads : MethodName := ⟨RX6, "reads", "()I"⟩
abbrev cX6_land : ByteArray := prog_8_method_18_code
def yX6_land : MethodName := ⟨RX6, "land", "()I"⟩
abbrev cX6_stopsBy : ByteArray := prog_8_method_19_code
def yX6_stopsBy : MethodName := ⟨RX6, "stopsBy", "(IIIII)Z"⟩
abbrev cX6_endsBy : ByteArray := prog_8_method_20_code
def yX6_endsBy : MethodName := ⟨RX6, "endsBy", "(IIII)Z"⟩
abbrev cX6_twelfths : ByteArray := prog_8_method_21_code
def yX6_twelfths : MethodName := ⟨RX6, "twelfths", "(I)I"⟩
abbrev cX6_law : ByteArray := prog_8_method_22_code
def yX6_law : MethodName := ⟨RX6, "law", "(II)I"⟩
abbrev cX6_set : ByteArray := prog_8_method_23_code
def yX6_set : MethodName := ⟨RX6, "set", "(II)I"⟩
abbrev cX6_stops : ByteArray := prog_8_method_24_code
def yX6_stops : MethodName := ⟨RX6, "stops", "(III)I"⟩
abbrev cX6_isFamily : ByteArray := prog_8_method_25_code
def yX6_isFamily : MethodName := ⟨RX6, "isFamily", "(IIJI)V"⟩
abbrev cX6_goesOn : ByteArray := prog_8_method_26_code
def yX6_goesOn : MethodName := ⟨RX6, "goesOn", "(IIIIIIJ)V"⟩
abbrev cX6_finds : ByteArray := prog_8_method_27_code
def yX6_finds : MethodName := ⟨RX6, "finds", "(I)V"⟩
abbrev cX6_common : ByteArray := prog_8_method_28_code
def yX6_common : MethodName := ⟨RX6, "common", "(JJ)J"⟩
abbrev cX6_part : ByteArray := prog_8_method_29_code
def yX6_part : MethodName := ⟨RX6, "part", "(JJI)J"⟩
abbrev cX6_isPart : ByteArray := prog_8_method_30_code
def yX6_isPart : MethodName := ⟨RX6, "isPart", "(I)Z"⟩
abbrev cX6_mean : ByteArray := prog_8_method_31_code
def yX6_mean : MethodName := ⟨RX6, "mean", "(II)J"⟩
abbrev cX6_share : ByteArray := prog_8_method_32_code
def yX6_share : MethodName := ⟨RX6, "share", "(I)J"⟩
abbrev cX6_all : ByteArray := prog_8_method_33_code
def yX6_all : MethodName := ⟨RX6, "all", "(I)J"⟩
abbrev cX6_more : ByteArray := prog_8_method_34_code
def yX6_more : MethodName := ⟨RX6, "more", "(II)J"⟩
abbrev cX6_size : ByteArray := prog_8_method_35_code
def yX6_size : MethodName := ⟨RX6, "size", "(II)J"⟩
abbrev cX6_met : ByteArray := prog_8_method_36_code
def yX6_met : MethodName := ⟨RX6, "met", "(II)J"⟩
abbrev cX6_says : ByteArray := prog_8_method_37_code
def yX6_says : MethodName := ⟨RX6, "says", "(IIIII)J"⟩
abbrev cX6_triedBy : ByteArray := prog_8_method_38_code
def yX6_triedBy : MethodName := ⟨RX6, "triedBy", "(IIIIJ)J"⟩
abbrev cX6_trial : ByteArray := prog_8_method_39_code
def yX6_trial : MethodName := ⟨RX6, "trial", "(III)J"⟩
abbrev cX6_stopOf : ByteArray := prog_8_method_40_code
def yX6_stopOf : MethodName := ⟨RX6, "stopOf", "(III)I"⟩
abbrev cX6_row : ByteArray := prog_8_method_41_code
def yX6_row : MethodName := ⟨RX6, "row", "(I)I"⟩
abbrev cX6_gone : ByteArray := prog_8_method_42_code
def yX6_gone : MethodName := ⟨RX6, "gone", "(I)J"⟩
abbrev cX6_shift : ByteArray := prog_8_method_43_code
def yX6_shift : MethodName := ⟨RX6, "shift", "(I)I"⟩
abbrev cX6_isMore : ByteArray := prog_8_method_44_code
def yX6_isMore : MethodName := ⟨RX6, "isMore", "(JJJJ)Z"⟩
abbrev cX6_manyOf : ByteArray := prog_8_method_45_code
def yX6_manyOf : MethodName := ⟨RX6, "manyOf", "(I)I"⟩
abbrev cX6_sortsOf : ByteArray := prog_8_method_46_code
def yX6_sortsOf : MethodName := ⟨RX6, "sortsOf", "(I)I"⟩
abbrev cX6_fits : ByteArray := prog_8_method_47_code
def yX6_fits : MethodName := ⟨RX6, "fits", "(I)I"⟩
abbrev cX6_judge : ByteArray := prog_8_method_48_code
def yX6_judge : MethodName := ⟨RX6, "judge", "()I"⟩
abbrev cX6_seen : ByteArray := prog_8_method_49_code
def yX6_seen : MethodName := ⟨RX6, "seen", "(II)I"⟩
abbrev cX6_cheats : ByteArray := prog_8_method_50_code
def yX6_cheats : MethodName := ⟨RX6, "cheats", "()I"⟩
abbrev cX6_drawn : ByteArray := prog_8_method_51_code
def yX6_drawn : MethodName := ⟨RX6, "drawn", "(I)I"⟩
abbrev cX6_lots : ByteArray := prog_8_method_52_code
def yX6_lots : MethodName := ⟨RX6, "lots", "(III)I"⟩
abbrev cX6_image : ByteArray := prog_8_method_53_code
def yX6_image : MethodName := ⟨RX6, "image", "()I"⟩
abbrev cX6_on : ByteArray := prog_8_method_54_code
def yX6_on : MethodName := ⟨RX6, "on", "()I"⟩
abbrev cX6_count : ByteArray := prog_8_method_55_code
def yX6_count : MethodName := ⟨RX6, "count", "(I)I"⟩
def RJ6 : String := "java/lang/Integer"
def TJ6 : u_T := fun k => match k with
  | _ => ("", "", "", false)
def tyJ6 : Nat → FieldType := fun k => match k with
  | _ => .int
abbrev wsJ60 : List Cond := u_ws RJ6 TJ6 0
theorem nmJ6 : ∀ a, a < 0 → ∀ b, b < 0 → a ≠ b → (TJ6 a).2.1 ≠ (TJ6 b).2.1 := by decide +kernel
theorem tyJ6_ok : ∀ k, k < 0 → parseFieldDescriptor (TJ6 k).2.2.1 = some (tyJ6 k) := by decide +kernel
abbrev cJ6_bitCount_0f7a4 : ByteArray := prog_9_method_49_code
def yJ6_bitCount_0f7a4 : MethodName := ⟨RJ6, "bitCount", "(I)I"⟩
def RJ9 : String := "java/lang/Math"
def TJ9 : u_T := fun k => match k with
  | _ => ("", "", "", false)
def tyJ9 : Nat → FieldType := fun k => match k with
  | _ => .int
abbrev wsJ90 : List Cond := u_ws RJ9 TJ9 0
theorem nmJ9 : ∀ a, a < 0 → ∀ b, b < 0 → a ≠ b → (TJ9 a).2.1 ≠ (TJ9 b).2.1 := by decide +kernel
theorem tyJ9_ok : ∀ k, k < 0 → parseFieldDescriptor (TJ9 k).2.2.1 = some (tyJ9 k) := by decide +kernel
abbrev cJ9_max_7cf53 : ByteArray := prog_10_method_65_code
def yJ9_max_7cf53 : MethodName := ⟨RJ9, "max", "(II)I"⟩
abbrev cJ9_min_7cf53 : ByteArray := prog_10_method_69_code
def yJ9_min_7cf53 : MethodName := ⟨RJ9, "min", "(II)I"⟩
def RJ7 : String := "java/util/Arrays"
def TJ7 : u_T := fun k => match k with
  | _ => ("", "", "", false)
def tyJ7 : Nat → FieldType := fun k => match k with
  | _ => .int
abbrev wsJ70 : List Cond := u_ws RJ7 TJ7 0
theorem nmJ7 : ∀ a, a < 0 → ∀ b, b < 0 → a ≠ b → (TJ7 a).2.1 ≠ (TJ7 b).2.1 := by decide +kernel
theorem tyJ7_ok : ∀ k, k < 0 → parseFieldDescriptor (TJ7 k).2.2.1 = some (tyJ7 k) := by decide +kernel
abbrev cJ7_fill_d0a16 : ByteArray := prog_11_method_101_code
def yJ7_fill_d0a16 : MethodName := ⟨RJ7, "fill", "([JJ)V"⟩
def RL : String := "TillOneOfSortLaw"
abbrev cL_law : ByteArray := code
def yL_law : MethodName := ⟨RL, "law", "([I)Z"⟩
def wsX0_init : List Cond := .code yX0_init cX0_init 1 none :: ([.methodLink RX0 3 objectInit, .instanceMethod objectInit, .code objectInit ⟨#[0xb1]⟩ 1 none, .arrayClass .long, .fieldLink RX0 11 "TillOneOfSort$Cells" "cells" "[J"] ++ wsX00)
def wsX0_placeOf : List Cond := .code yX0_placeOf cX0_placeOf 3 (some .int) :: ([])
def wsX0_at : List Cond := .code yX0_at cX0_at 5 (some .long) :: ([.fieldLink RX0 11 "TillOneOfSort$Cells" "cells" "[J", .methodLink RX0 15 yX0_placeOf, .static yX0_placeOf, .initialized RX0, .code yX0_placeOf cX0_placeOf 3 (some .int)] ++ wsX00)
def wsX0_add : List Cond := .code yX0_add cX0_add 7 none :: ([.fieldLink RX0 11 "TillOneOfSort$Cells" "cells" "[J", .methodLink RX0 15 yX0_placeOf, .static yX0_placeOf, .initialized RX0, .code yX0_placeOf cX0_placeOf 3 (some .int)] ++ wsX00)
def wsJ7_fill_d0a16 : List Cond := .code yJ7_fill_d0a16 cJ7_fill_d0a16 5 none :: ([])
def wsX0_clear : List Cond := .code yX0_clear cX0_clear 1 none :: ([.fieldLink RX0 11 "TillOneOfSort$Cells" "cells" "[J", .methodLink RX0 19 yJ7_fill_d0a16, .static yJ7_fill_d0a16, .initialized RJ7, .code yJ7_fill_d0a16 cJ7_fill_d0a16 5 none] ++ wsX00)
def wsX1_init : List Cond := .code yX1_init cX1_init 2 none :: ([.methodLink RX1 3 objectInit, .instanceMethod objectInit, .code objectInit ⟨#[0xb1]⟩ 1 none, .classLink RX1 9 RX0, .instantiable RX0 1, .initialized RX0, .fieldLink RX1 12 "TillOneOfSort$Tally" "ends" "LTillOneOfSort$Cells;", .fieldLink RX1 18 "TillOneOfSort$Tally" "kind" "I", .fieldLink RX1 22 "TillOneOfSort$Tally" "walk" "LTillOneOfSort$Walk;", .instanceMethod yX0_init, .code yX0_init cX0_init 1 none, .methodLink RX0 3 objectInit, .arrayClass .long, .fieldLink RX0 11 "TillOneOfSort$Cells" "cells" "[J"] ++ wsX00 ++ wsX10)
def wsX4_begin : List Cond := .code yX4_begin cX4_begin 2 none :: ([.fieldLink RX4 12 "TillOneOfSort$Walk" "here" "LTillOneOfSort$Cells;", .fieldLink RX4 18 "TillOneOfSort$Walk" "next" "LTillOneOfSort$Cells;", .methodLink RX4 21 yX0_clear, .instanceMethod yX0_clear, .selects RX0 yX0_clear yX0_clear, .initialized RX0, .code yX0_clear cX0_clear 1 none, .fieldLink RX0 11 "TillOneOfSort$Cells" "cells" "[J", .methodLink RX0 19 yJ7_fill_d0a16, .static yJ7_fill_d0a16, .initialized RJ7, .code yJ7_fill_d0a16 cJ7_fill_d0a16 5 none, .methodLink RX4 24 yX0_add, .instanceMethod yX0_add, .selects RX0 yX0_add yX0_add, .code yX0_add cX0_add 7 none, .methodLink RX0 15 yX0_placeOf, .static yX0_placeOf, .code yX0_placeOf cX0_placeOf 3 (some .int)] ++ wsX40 ++ wsX00)
def wsX5_lawStops : List Cond := .code yX5_lawStops cX5_lawStops 5 (some .boolean) :: ([])
def wsX5_chanceOfOne : List Cond := .code yX5_chanceOfOne cX5_chanceOfOne 5 (some .int) :: ([.methodLink RX5 211 Lib.Math.min.name, .static Lib.Math.min.name, .initialized "java/lang/Math", .code Lib.Math.min.name Lib.Math.min.code 2 (some .int), .methodLink RX5 216 Lib.Math.max.name, .static Lib.Math.max.name, .code Lib.Math.max.name Lib.Math.max.code 2 (some .int)])
def wsX1_goOn_r1 : List Cond := [Cond.fieldLink RX1 22 "TillOneOfSort$Tally" "walk" "LTillOneOfSort$Walk;", Cond.fieldLink RX1 29 "TillOneOfSort$Tally" "most" "I", Cond.fieldLink RX1 18 "TillOneOfSort$Tally" "kind" "I", Cond.fieldLink RX1 26 "TillOneOfSort$Tally" "figure" "I", Cond.fieldLink RX1 12 "TillOneOfSort$Tally" "ends" "LTillOneOfSort$Cells;", Cond.fieldLink RX1 32 "TillOneOfSort$Tally" "chance" "I", Cond.fieldLink RX1 35 "TillOneOfSort$Tally" "lean" "I", Cond.methodLink RX1 57 yX0_at, Cond.instanceMethod yX0_at, Cond.selects RX0 yX0_at yX0_at, Cond.initialized RX0, Cond.code yX0_at cX0_at 5 (some .long), Cond.fieldLink RX0 11 "TillOneOfSort$Cells" "cells" "[J", Cond.methodLink RX0 15 yX0_placeOf, Cond.static yX0_placeOf, Cond.code yX0_placeOf cX0_placeOf 3 (some .int), Cond.static yX5_lawStops, Cond.initialized RX5, Cond.code yX5_lawStops cX5_lawStops 5 (some .boolean), Cond.methodLink RX1 69 yX0_add, Cond.instanceMethod yX0_add, Cond.selects RX0 yX0_add yX0_add, Cond.code yX0_add cX0_add 7 none, Cond.static yX5_chanceOfOne]
def wsX1_goOn_r2 : List Cond := [Cond.code yX5_chanceOfOne cX5_chanceOfOne 5 (some .int), Cond.methodLink RX5 211 Lib.Math.min.name, Cond.static Lib.Math.min.name, Cond.initialized "java/lang/Math", Cond.code Lib.Math.min.name Lib.Math.min.code 2 (some .int), Cond.methodLink RX5 216 Lib.Math.max.name, Cond.static Lib.Math.max.name, Cond.code Lib.Math.max.name Lib.Math.max.code 2 (some .int)]
def wsX1_goOn : List Cond := .code yX1_goOn cX1_goOn 10 none :: ((wsX1_goOn_r1 ++ wsX1_goOn_r2) ++ wsX10 ++ wsX40 ++ wsX00)
def wsX4_stepOn : List Cond := .code yX4_stepOn cX4_stepOn 2 none :: ([.fieldLink RX4 12 "TillOneOfSort$Walk" "here" "LTillOneOfSort$Cells;", .fieldLink RX4 18 "TillOneOfSort$Walk" "next" "LTillOneOfSort$Cells;", .methodLink RX4 21 yX0_clear, .instanceMethod yX0_clear, .selects RX0 yX0_clear yX0_clear, .initialized RX0, .code yX0_clear cX0_clear 1 none, .fieldLink RX0 11 "TillOneOfSort$Cells" "cells" "[J", .methodLink RX0 19 yJ7_fill_d0a16, .static yJ7_fill_d0a16, .initialized RJ7, .code yJ7_fill_d0a16 cJ7_fill_d0a16 5 none] ++ wsX40 ++ wsX00)
def wsX1_retell_r1 : List Cond := [Cond.fieldLink RX1 18 "TillOneOfSort$Tally" "kind" "I", Cond.fieldLink RX1 26 "TillOneOfSort$Tally" "figure" "I", Cond.fieldLink RX1 29 "TillOneOfSort$Tally" "most" "I", Cond.fieldLink RX1 32 "TillOneOfSort$Tally" "chance" "I", Cond.fieldLink RX1 35 "TillOneOfSort$Tally" "lean" "I", Cond.fieldLink RX1 12 "TillOneOfSort$Tally" "ends" "LTillOneOfSort$Cells;", Cond.fieldLink RX1 22 "TillOneOfSort$Tally" "walk" "LTillOneOfSort$Walk;", Cond.methodLink RX1 38 yX0_clear, Cond.instanceMethod yX0_clear, Cond.selects RX0 yX0_clear yX0_clear, Cond.initialized RX0, Cond.code yX0_clear cX0_clear 1 none, Cond.fieldLink RX0 11 "TillOneOfSort$Cells" "cells" "[J", Cond.methodLink RX0 19 yJ7_fill_d0a16, Cond.static yJ7_fill_d0a16, Cond.initialized RJ7, Cond.code yJ7_fill_d0a16 cJ7_fill_d0a16 5 none, Cond.methodLink RX1 41 yX4_begin, Cond.instanceMethod yX4_begin, Cond.selects RX4 yX4_begin yX4_begin, Cond.initialized RX4, Cond.code yX4_begin cX4_begin 2 none, Cond.fieldLink RX4 12 "TillOneOfSort$Walk" "here" "LTillOneOfSort$Cells;", Cond.fieldLink RX4 18 "TillOneOfSort$Walk" "next" "LTillOneOfSort$Cells;"]
def wsX1_retell_r2 : List Cond := [Cond.methodLink RX4 21 yX0_clear, Cond.methodLink RX4 24 yX0_add, Cond.instanceMethod yX0_add, Cond.selects RX0 yX0_add yX0_add, Cond.code yX0_add cX0_add 7 none, Cond.methodLink RX0 15 yX0_placeOf, Cond.static yX0_placeOf, Cond.code yX0_placeOf cX0_placeOf 3 (some .int), Cond.methodLink RX1 47 yX1_goOn, Cond.instanceMethod yX1_goOn, Cond.selects RX1 yX1_goOn yX1_goOn, Cond.initialized RX1, Cond.code yX1_goOn cX1_goOn 10 none, Cond.methodLink RX1 57 yX0_at, Cond.instanceMethod yX0_at, Cond.selects RX0 yX0_at yX0_at, Cond.code yX0_at cX0_at 5 (some .long), Cond.static yX5_lawStops, Cond.initialized RX5, Cond.code yX5_lawStops cX5_lawStops 5 (some .boolean), Cond.methodLink RX1 69 yX0_add, Cond.static yX5_chanceOfOne, Cond.code yX5_chanceOfOne cX5_chanceOfOne 5 (some .int), Cond.methodLink RX5 211 Lib.Math.min.name]
def wsX1_retell_r3 : List Cond := [Cond.static Lib.Math.min.name, Cond.initialized "java/lang/Math", Cond.code Lib.Math.min.name Lib.Math.min.code 2 (some .int), Cond.methodLink RX5 216 Lib.Math.max.name, Cond.static Lib.Math.max.name, Cond.code Lib.Math.max.name Lib.Math.max.code 2 (some .int), Cond.methodLink RX1 51 yX4_stepOn, Cond.instanceMethod yX4_stepOn, Cond.selects RX4 yX4_stepOn yX4_stepOn, Cond.code yX4_stepOn cX4_stepOn 2 none]
def wsX1_retell : List Cond := .code yX1_retell cX1_retell 9 none :: ((wsX1_retell_r1 ++ (wsX1_retell_r2 ++ wsX1_retell_r3)) ++ wsX10 ++ wsX00 ++ wsX40)
def wsX1_families : List Cond := .code yX1_families cX1_families 3 (some .long) :: ([.fieldLink RX1 12 "TillOneOfSort$Tally" "ends" "LTillOneOfSort$Cells;", .methodLink RX1 57 yX0_at, .instanceMethod yX0_at, .selects RX0 yX0_at yX0_at, .initialized RX0, .code yX0_at cX0_at 5 (some .long), .fieldLink RX0 11 "TillOneOfSort$Cells" "cells" "[J", .methodLink RX0 15 yX0_placeOf, .static yX0_placeOf, .code yX0_placeOf cX0_placeOf 3 (some .int)] ++ wsX10 ++ wsX00)
def wsX1_familiesFrom : List Cond := .code yX1_familiesFrom cX1_familiesFrom 4 (some .long) :: ([.fieldLink RX1 12 "TillOneOfSort$Tally" "ends" "LTillOneOfSort$Cells;", .methodLink RX1 57 yX0_at, .instanceMethod yX0_at, .selects RX0 yX0_at yX0_at, .initialized RX0, .code yX0_at cX0_at 5 (some .long), .fieldLink RX0 11 "TillOneOfSort$Cells" "cells" "[J", .methodLink RX0 15 yX0_placeOf, .static yX0_placeOf, .code yX0_placeOf cX0_placeOf 3 (some .int)] ++ wsX10 ++ wsX00)
def wsX1_measured : List Cond := .code yX1_measured cX1_measured 5 (some .long) :: ([])
def wsX1_sum : List Cond := .code yX1_sum cX1_sum 9 (some .long) :: ([.fieldLink RX1 29 "TillOneOfSort$Tally" "most" "I", .methodLink RX1 80 yX1_families, .instanceMethod yX1_families, .selects RX1 yX1_families yX1_families, .initialized RX1, .code yX1_families cX1_families 3 (some .long), .fieldLink RX1 12 "TillOneOfSort$Tally" "ends" "LTillOneOfSort$Cells;", .methodLink RX1 57 yX0_at, .instanceMethod yX0_at, .selects RX0 yX0_at yX0_at, .initialized RX0, .code yX0_at cX0_at 5 (some .long), .fieldLink RX0 11 "TillOneOfSort$Cells" "cells" "[J", .methodLink RX0 15 yX0_placeOf, .static yX0_placeOf, .code yX0_placeOf cX0_placeOf 3 (some .int), .methodLink RX1 84 yX1_measured, .static yX1_measured, .code yX1_measured cX1_measured 5 (some .long)] ++ wsX10 ++ wsX00)
def wsX2_init : List Cond := .code yX2_init cX2_init 1 none :: ([.methodLink RX2 3 objectInit, .instanceMethod objectInit, .code objectInit ⟨#[0xb1]⟩ 1 none, .arrayClass .int, .fieldLink RX2 9 "TillOneOfSort$Text" "letters" "[I"] ++ wsX20)
def wsX2_append : List Cond := .code yX2_append cX2_append 2 none :: ([.fieldLink RX2 15 "TillOneOfSort$Text" "length" "I", .fieldLink RX2 9 "TillOneOfSort$Text" "letters" "[I"] ++ wsX20)
def wsX2_at : List Cond := .code yX2_at cX2_at 2 (some .int) :: ([.fieldLink RX2 15 "TillOneOfSort$Text" "length" "I", .fieldLink RX2 9 "TillOneOfSort$Text" "letters" "[I"] ++ wsX20)
def wsX2_kindAt : List Cond := .code yX2_kindAt cX2_kindAt 2 (some .int) :: ([.methodLink RX2 23 yX2_at, .instanceMethod yX2_at, .selects RX2 yX2_at yX2_at, .initialized RX2, .code yX2_at cX2_at 2 (some .int), .fieldLink RX2 15 "TillOneOfSort$Text" "length" "I", .fieldLink RX2 9 "TillOneOfSort$Text" "letters" "[I"] ++ wsX20)
def wsX2_endOfDigits : List Cond := .code yX2_endOfDigits cX2_endOfDigits 5 (some .int) :: ([.methodLink RX2 23 yX2_at, .instanceMethod yX2_at, .selects RX2 yX2_at yX2_at, .initialized RX2, .code yX2_at cX2_at 2 (some .int), .fieldLink RX2 15 "TillOneOfSort$Text" "length" "I", .fieldLink RX2 9 "TillOneOfSort$Text" "letters" "[I"] ++ wsX20)
def wsX2_isSign : List Cond := .code yX2_isSign cX2_isSign 1 (some .boolean) :: ([])
def wsX2_endOfStatement : List Cond := .code yX2_endOfStatement cX2_endOfStatement 3 (some .int) :: ([.methodLink RX2 23 yX2_at, .instanceMethod yX2_at, .selects RX2 yX2_at yX2_at, .initialized RX2, .code yX2_at cX2_at 2 (some .int), .fieldLink RX2 15 "TillOneOfSort$Text" "length" "I", .fieldLink RX2 9 "TillOneOfSort$Text" "letters" "[I", .methodLink RX2 26 yX2_kindAt, .instanceMethod yX2_kindAt, .selects RX2 yX2_kindAt yX2_kindAt, .code yX2_kindAt cX2_kindAt 2 (some .int), .methodLink RX2 29 yX2_endOfDigits, .instanceMethod yX2_endOfDigits, .selects RX2 yX2_endOfDigits yX2_endOfDigits, .code yX2_endOfDigits cX2_endOfDigits 5 (some .int), .methodLink RX2 33 yX2_isSign, .static yX2_isSign, .code yX2_isSign cX2_isSign 1 (some .boolean)] ++ wsX20)
def wsX2_firstFault : List Cond := .code yX2_firstFault cX2_firstFault 4 (some .int) :: ([.fieldLink RX2 15 "TillOneOfSort$Text" "length" "I", .methodLink RX2 19 yX2_endOfStatement, .instanceMethod yX2_endOfStatement, .selects RX2 yX2_endOfStatement yX2_endOfStatement, .initialized RX2, .code yX2_endOfStatement cX2_endOfStatement 3 (some .int), .methodLink RX2 23 yX2_at, .instanceMethod yX2_at, .selects RX2 yX2_at yX2_at, .code yX2_at cX2_at 2 (some .int), .fieldLink RX2 9 "TillOneOfSort$Text" "letters" "[I", .methodLink RX2 26 yX2_kindAt, .instanceMethod yX2_kindAt, .selects RX2 yX2_kindAt yX2_kindAt, .code yX2_kindAt cX2_kindAt 2 (some .int), .methodLink RX2 29 yX2_endOfDigits, .instanceMethod yX2_endOfDigits, .selects RX2 yX2_endOfDigits yX2_endOfDigits, .code yX2_endOfDigits cX2_endOfDigits 5 (some .int), .methodLink RX2 33 yX2_isSign, .static yX2_isSign, .code yX2_isSign cX2_isSign 1 (some .boolean)] ++ wsX20)
def wsX2_numberAt : List Cond := .code yX2_numberAt cX2_numberAt 5 (some .int) :: ([.methodLink RX2 23 yX2_at, .instanceMethod yX2_at, .selects RX2 yX2_at yX2_at, .initialized RX2, .code yX2_at cX2_at 2 (some .int), .fieldLink RX2 15 "TillOneOfSort$Text" "length" "I", .fieldLink RX2 9 "TillOneOfSort$Text" "letters" "[I"] ++ wsX20)
def wsX3_init : List Cond := .code yX3_init cX3_init 1 none :: ([.methodLink RX3 3 objectInit, .instanceMethod objectInit, .code objectInit ⟨#[0xb1]⟩ 1 none, .fieldLink RX3 9 "TillOneOfSort$Told" "kind" "I", .fieldLink RX3 15 "TillOneOfSort$Told" "figure" "I", .fieldLink RX3 18 "TillOneOfSort$Told" "most" "I", .fieldLink RX3 21 "TillOneOfSort$Told" "chance" "I", .arrayClass .int, .fieldLink RX3 24 "TillOneOfSort$Told" "lengths" "[I", .fieldLink RX3 28 "TillOneOfSort$Told" "sorts" "[I"] ++ wsX30)
def wsX3_lengthOf : List Cond := .code yX3_lengthOf cX3_lengthOf 2 (some .int) :: ([.fieldLink RX3 24 "TillOneOfSort$Told" "lengths" "[I"] ++ wsX30)
def wsX3_sortsOf : List Cond := .code yX3_sortsOf cX3_sortsOf 2 (some .int) :: ([.fieldLink RX3 28 "TillOneOfSort$Told" "sorts" "[I"] ++ wsX30)
def wsX3_copy : List Cond := .code yX3_copy cX3_copy 3 none :: ([.fieldLink RX3 9 "TillOneOfSort$Told" "kind" "I", .fieldLink RX3 15 "TillOneOfSort$Told" "figure" "I", .fieldLink RX3 18 "TillOneOfSort$Told" "most" "I", .fieldLink RX3 21 "TillOneOfSort$Told" "chance" "I", .fieldLink RX3 31 "TillOneOfSort$Told" "lean" "I", .fieldLink RX3 34 "TillOneOfSort$Told" "families" "I", .fieldLink RX3 24 "TillOneOfSort$Told" "lengths" "[I", .fieldLink RX3 28 "TillOneOfSort$Told" "sorts" "[I", .methodLink RX3 37 yX3_lengthOf, .instanceMethod yX3_lengthOf, .selects RX3 yX3_lengthOf yX3_lengthOf, .initialized RX3, .code yX3_lengthOf cX3_lengthOf 2 (some .int), .methodLink RX3 41 yX3_sortsOf, .instanceMethod yX3_sortsOf, .selects RX3 yX3_sortsOf yX3_sortsOf, .code yX3_sortsOf cX3_sortsOf 2 (some .int)] ++ wsX30)
def wsX3_least : List Cond := .code yX3_least cX3_least 1 (some .int) :: ([])
def wsX3_greatest : List Cond := .code yX3_greatest cX3_greatest 1 (some .int) :: ([])
def wsX3_number : List Cond := .code yX3_number cX3_number 2 (some .int) :: ([.fieldLink RX3 31 "TillOneOfSort$Told" "lean" "I", .fieldLink RX3 21 "TillOneOfSort$Told" "chance" "I", .fieldLink RX3 18 "TillOneOfSort$Told" "most" "I"] ++ wsX30)
def wsX3_tellNumber : List Cond := .code yX3_tellNumber cX3_tellNumber 3 (some .boolean) :: ([.fieldLink RX3 31 "TillOneOfSort$Told" "lean" "I", .fieldLink RX3 21 "TillOneOfSort$Told" "chance" "I", .fieldLink RX3 18 "TillOneOfSort$Told" "most" "I", .methodLink RX3 44 yX3_least, .static yX3_least, .initialized RX3, .code yX3_least cX3_least 1 (some .int), .methodLink RX3 47 yX3_greatest, .static yX3_greatest, .code yX3_greatest cX3_greatest 1 (some .int)] ++ wsX30)
def wsX3_takeLaw : List Cond := .code yX3_takeLaw cX3_takeLaw 3 (some .boolean) :: ([.fieldLink RX3 9 "TillOneOfSort$Told" "kind" "I", .fieldLink RX3 15 "TillOneOfSort$Told" "figure" "I"] ++ wsX30)
def wsX3_takeFamily : List Cond := .code yX3_takeFamily cX3_takeFamily 6 (some .boolean) :: ([.fieldLink RX3 34 "TillOneOfSort$Told" "families" "I", .fieldLink RX3 24 "TillOneOfSort$Told" "lengths" "[I", .fieldLink RX3 28 "TillOneOfSort$Told" "sorts" "[I", .methodLink RX3 50 yX2_at, .instanceMethod yX2_at, .selects RX2 yX2_at yX2_at, .initialized RX2, .code yX2_at cX2_at 2 (some .int), .fieldLink RX2 15 "TillOneOfSort$Text" "length" "I", .fieldLink RX2 9 "TillOneOfSort$Text" "letters" "[I"] ++ wsX30 ++ wsX20)
def wsX3_take_r1 : List Cond := [Cond.methodLink RX3 50 yX2_at, Cond.instanceMethod yX2_at, Cond.selects RX2 yX2_at yX2_at, Cond.initialized RX2, Cond.code yX2_at cX2_at 2 (some .int), Cond.fieldLink RX2 15 "TillOneOfSort$Text" "length" "I", Cond.fieldLink RX2 9 "TillOneOfSort$Text" "letters" "[I", Cond.methodLink RX3 55 yX2_kindAt, Cond.instanceMethod yX2_kindAt, Cond.selects RX2 yX2_kindAt yX2_kindAt, Cond.code yX2_kindAt cX2_kindAt 2 (some .int), Cond.methodLink RX2 23 yX2_at, Cond.methodLink RX3 58 yX2_numberAt, Cond.instanceMethod yX2_numberAt, Cond.selects RX2 yX2_numberAt yX2_numberAt, Cond.code yX2_numberAt cX2_numberAt 5 (some .int), Cond.methodLink RX3 62 yX3_takeLaw, Cond.instanceMethod yX3_takeLaw, Cond.selects RX3 yX3_takeLaw yX3_takeLaw, Cond.initialized RX3, Cond.code yX3_takeLaw cX3_takeLaw 3 (some .boolean), Cond.fieldLink RX3 9 "TillOneOfSort$Told" "kind" "I", Cond.fieldLink RX3 15 "TillOneOfSort$Told" "figure" "I", Cond.methodLink RX3 66 yX3_tellNumber]
def wsX3_take_r2 : List Cond := [Cond.instanceMethod yX3_tellNumber, Cond.selects RX3 yX3_tellNumber yX3_tellNumber, Cond.code yX3_tellNumber cX3_tellNumber 3 (some .boolean), Cond.fieldLink RX3 31 "TillOneOfSort$Told" "lean" "I", Cond.fieldLink RX3 21 "TillOneOfSort$Told" "chance" "I", Cond.fieldLink RX3 18 "TillOneOfSort$Told" "most" "I", Cond.methodLink RX3 44 yX3_least, Cond.static yX3_least, Cond.code yX3_least cX3_least 1 (some .int), Cond.methodLink RX3 47 yX3_greatest, Cond.static yX3_greatest, Cond.code yX3_greatest cX3_greatest 1 (some .int), Cond.methodLink RX3 69 yX3_takeFamily, Cond.instanceMethod yX3_takeFamily, Cond.selects RX3 yX3_takeFamily yX3_takeFamily, Cond.code yX3_takeFamily cX3_takeFamily 6 (some .boolean), Cond.fieldLink RX3 34 "TillOneOfSort$Told" "families" "I", Cond.fieldLink RX3 24 "TillOneOfSort$Told" "lengths" "[I", Cond.fieldLink RX3 28 "TillOneOfSort$Told" "sorts" "[I"]
def wsX3_take : List Cond := .code yX3_take cX3_take 7 (some .boolean) :: ((wsX3_take_r1 ++ wsX3_take_r2) ++ wsX20 ++ wsX30)
def wsX3_stopPlace : List Cond := .code yX3_stopPlace cX3_stopPlace 8 (some .int) :: ([.fieldLink RX3 18 "TillOneOfSort$Told" "most" "I", .fieldLink RX3 15 "TillOneOfSort$Told" "figure" "I", .static yX5_lawStops, .initialized RX5, .code yX5_lawStops cX5_lawStops 5 (some .boolean)] ++ wsX30)
def wsX3_endsAllSeen : List Cond := .code yX3_endsAllSeen cX3_endsAllSeen 3 (some .boolean) :: ([.fieldLink RX3 34 "TillOneOfSort$Told" "families" "I", .methodLink RX3 37 yX3_lengthOf, .instanceMethod yX3_lengthOf, .selects RX3 yX3_lengthOf yX3_lengthOf, .initialized RX3, .code yX3_lengthOf cX3_lengthOf 2 (some .int), .fieldLink RX3 24 "TillOneOfSort$Told" "lengths" "[I", .methodLink RX3 41 yX3_sortsOf, .instanceMethod yX3_sortsOf, .selects RX3 yX3_sortsOf yX3_sortsOf, .code yX3_sortsOf cX3_sortsOf 2 (some .int), .fieldLink RX3 28 "TillOneOfSort$Told" "sorts" "[I", .methodLink RX3 77 yX3_stopPlace, .instanceMethod yX3_stopPlace, .selects RX3 yX3_stopPlace yX3_stopPlace, .code yX3_stopPlace cX3_stopPlace 8 (some .int), .fieldLink RX3 18 "TillOneOfSort$Told" "most" "I", .fieldLink RX3 15 "TillOneOfSort$Told" "figure" "I", .static yX5_lawStops, .initialized RX5, .code yX5_lawStops cX5_lawStops 5 (some .boolean)] ++ wsX30)
def wsX3_countStoppedAhead : List Cond := .code yX3_countStoppedAhead cX3_countStoppedAhead 4 (some .int) :: ([.fieldLink RX3 34 "TillOneOfSort$Told" "families" "I", .methodLink RX3 37 yX3_lengthOf, .instanceMethod yX3_lengthOf, .selects RX3 yX3_lengthOf yX3_lengthOf, .initialized RX3, .code yX3_lengthOf cX3_lengthOf 2 (some .int), .fieldLink RX3 24 "TillOneOfSort$Told" "lengths" "[I", .methodLink RX3 41 yX3_sortsOf, .instanceMethod yX3_sortsOf, .selects RX3 yX3_sortsOf yX3_sortsOf, .code yX3_sortsOf cX3_sortsOf 2 (some .int), .fieldLink RX3 28 "TillOneOfSort$Told" "sorts" "[I", .methodLink RX3 77 yX3_stopPlace, .instanceMethod yX3_stopPlace, .selects RX3 yX3_stopPlace yX3_stopPlace, .code yX3_stopPlace cX3_stopPlace 8 (some .int), .fieldLink RX3 18 "TillOneOfSort$Told" "most" "I", .fieldLink RX3 15 "TillOneOfSort$Told" "figure" "I", .static yX5_lawStops, .initialized RX5, .code yX5_lawStops cX5_lawStops 5 (some .boolean)] ++ wsX30)
def wsX4_init : List Cond := .code yX4_init cX4_init 1 none :: ([.methodLink RX4 3 objectInit, .instanceMethod objectInit, .code objectInit ⟨#[0xb1]⟩ 1 none, .classLink RX4 9 RX0, .instantiable RX0 1, .initialized RX0, .fieldLink RX4 12 "TillOneOfSort$Walk" "here" "LTillOneOfSort$Cells;", .fieldLink RX4 18 "TillOneOfSort$Walk" "next" "LTillOneOfSort$Cells;", .instanceMethod yX0_init, .code yX0_init cX0_init 1 none, .methodLink RX0 3 objectInit, .arrayClass .long, .fieldLink RX0 11 "TillOneOfSort$Cells" "cells" "[J"] ++ wsX00 ++ wsX40)
def wsX5_init_r1 : List Cond := [Cond.methodLink RX5 1 objectInit, Cond.instanceMethod objectInit, Cond.code objectInit ⟨#[0xb1]⟩ 1 none, Cond.classLink RX5 7 RX3, Cond.instantiable RX3 8, Cond.initialized RX3, Cond.fieldLink RX5 10 "TillOneOfSort" "told" "LTillOneOfSort$Told;", Cond.fieldLink RX5 16 "TillOneOfSort" "draft" "LTillOneOfSort$Told;", Cond.fieldLink RX5 19 "TillOneOfSort" "kept" "LTillOneOfSort$Told;", Cond.classLink RX5 22 RX2, Cond.instantiable RX2 2, Cond.initialized RX2, Cond.fieldLink RX5 25 "TillOneOfSort" "text" "LTillOneOfSort$Text;", Cond.arrayClass .int, Cond.fieldLink RX5 29 "TillOneOfSort" "refusals" "[I", Cond.classLink RX5 33 RX1, Cond.fieldLink RX5 35 "TillOneOfSort" "tallies" "[LTillOneOfSort$Tally;", Cond.classLink RX5 39 RX4, Cond.instantiable RX4 2, Cond.initialized RX4, Cond.instantiable RX1 7, Cond.initialized RX1, Cond.fieldLink RX5 45 "TillOneOfSort" "spare" "LTillOneOfSort$Tally;", Cond.instanceMethod yX3_init]
def wsX5_init_r2 : List Cond := [Cond.code yX3_init cX3_init 1 none, Cond.methodLink RX3 3 objectInit, Cond.fieldLink RX3 9 "TillOneOfSort$Told" "kind" "I", Cond.fieldLink RX3 15 "TillOneOfSort$Told" "figure" "I", Cond.fieldLink RX3 18 "TillOneOfSort$Told" "most" "I", Cond.fieldLink RX3 21 "TillOneOfSort$Told" "chance" "I", Cond.fieldLink RX3 24 "TillOneOfSort$Told" "lengths" "[I", Cond.fieldLink RX3 28 "TillOneOfSort$Told" "sorts" "[I", Cond.instanceMethod yX2_init, Cond.code yX2_init cX2_init 1 none, Cond.methodLink RX2 3 objectInit, Cond.fieldLink RX2 9 "TillOneOfSort$Text" "letters" "[I", Cond.instanceMethod yX4_init, Cond.code yX4_init cX4_init 1 none, Cond.methodLink RX4 3 objectInit, Cond.classLink RX4 9 RX0, Cond.instantiable RX0 1, Cond.initialized RX0, Cond.fieldLink RX4 12 "TillOneOfSort$Walk" "here" "LTillOneOfSort$Cells;", Cond.fieldLink RX4 18 "TillOneOfSort$Walk" "next" "LTillOneOfSort$Cells;", Cond.instanceMethod yX0_init, Cond.code yX0_init cX0_init 1 none, Cond.methodLink RX0 3 objectInit, Cond.arrayClass .long]
def wsX5_init_r3 : List Cond := [Cond.fieldLink RX0 11 "TillOneOfSort$Cells" "cells" "[J", Cond.methodLink RX5 42 yX1_init, Cond.instanceMethod yX1_init, Cond.code yX1_init cX1_init 2 none, Cond.methodLink RX1 3 objectInit, Cond.classLink RX1 9 RX0, Cond.fieldLink RX1 12 "TillOneOfSort$Tally" "ends" "LTillOneOfSort$Cells;", Cond.fieldLink RX1 18 "TillOneOfSort$Tally" "kind" "I", Cond.fieldLink RX1 22 "TillOneOfSort$Tally" "walk" "LTillOneOfSort$Walk;"]
def wsX5_init : List Cond := .code yX5_init cX5_init 3 none :: ((wsX5_init_r1 ++ (wsX5_init_r2 ++ wsX5_init_r3)) ++ wsX30 ++ wsX50 ++ wsX20 ++ wsX40 ++ wsX10 ++ wsX00)
def wsX5_refuse : List Cond := .code yX5_refuse cX5_refuse 3 (some .int) :: ([.fieldLink RX5 29 "TillOneOfSort" "refusals" "[I"] ++ wsX50)
def wsX5_letter : List Cond := .code yX5_letter cX5_letter 2 (some .int) :: ([.fieldLink RX5 25 "TillOneOfSort" "text" "LTillOneOfSort$Text;", .methodLink RX5 49 yX5_refuse, .instanceMethod yX5_refuse, .selects RX5 yX5_refuse yX5_refuse, .initialized RX5, .code yX5_refuse cX5_refuse 3 (some .int), .fieldLink RX5 29 "TillOneOfSort" "refusals" "[I", .methodLink RX5 57 yX2_append, .instanceMethod yX2_append, .selects RX2 yX2_append yX2_append, .initialized RX2, .code yX2_append cX2_append 2 none, .fieldLink RX2 15 "TillOneOfSort$Text" "length" "I", .fieldLink RX2 9 "TillOneOfSort$Text" "letters" "[I"] ++ wsX50 ++ wsX20)
def wsX5_tellText_r1 : List Cond := [Cond.fieldLink RX5 16 "TillOneOfSort" "draft" "LTillOneOfSort$Told;", Cond.fieldLink RX5 10 "TillOneOfSort" "told" "LTillOneOfSort$Told;", Cond.fieldLink RX5 25 "TillOneOfSort" "text" "LTillOneOfSort$Text;", Cond.methodLink RX5 168 yX3_copy, Cond.instanceMethod yX3_copy, Cond.selects RX3 yX3_copy yX3_copy, Cond.initialized RX3, Cond.code yX3_copy cX3_copy 3 none, Cond.fieldLink RX3 9 "TillOneOfSort$Told" "kind" "I", Cond.fieldLink RX3 15 "TillOneOfSort$Told" "figure" "I", Cond.fieldLink RX3 18 "TillOneOfSort$Told" "most" "I", Cond.fieldLink RX3 21 "TillOneOfSort$Told" "chance" "I", Cond.fieldLink RX3 31 "TillOneOfSort$Told" "lean" "I", Cond.fieldLink RX3 34 "TillOneOfSort$Told" "families" "I", Cond.fieldLink RX3 24 "TillOneOfSort$Told" "lengths" "[I", Cond.fieldLink RX3 28 "TillOneOfSort$Told" "sorts" "[I", Cond.methodLink RX3 37 yX3_lengthOf, Cond.instanceMethod yX3_lengthOf, Cond.selects RX3 yX3_lengthOf yX3_lengthOf, Cond.code yX3_lengthOf cX3_lengthOf 2 (some .int), Cond.methodLink RX3 41 yX3_sortsOf, Cond.instanceMethod yX3_sortsOf, Cond.selects RX3 yX3_sortsOf yX3_sortsOf, Cond.code yX3_sortsOf cX3_sortsOf 2 (some .int)]
def wsX5_tellText_r2 : List Cond := [Cond.methodLink RX5 178 yX2_endOfStatement, Cond.instanceMethod yX2_endOfStatement, Cond.selects RX2 yX2_endOfStatement yX2_endOfStatement, Cond.initialized RX2, Cond.code yX2_endOfStatement cX2_endOfStatement 3 (some .int), Cond.methodLink RX2 23 yX2_at, Cond.instanceMethod yX2_at, Cond.selects RX2 yX2_at yX2_at, Cond.code yX2_at cX2_at 2 (some .int), Cond.fieldLink RX2 15 "TillOneOfSort$Text" "length" "I", Cond.fieldLink RX2 9 "TillOneOfSort$Text" "letters" "[I", Cond.methodLink RX2 26 yX2_kindAt, Cond.instanceMethod yX2_kindAt, Cond.selects RX2 yX2_kindAt yX2_kindAt, Cond.code yX2_kindAt cX2_kindAt 2 (some .int), Cond.methodLink RX2 29 yX2_endOfDigits, Cond.instanceMethod yX2_endOfDigits, Cond.selects RX2 yX2_endOfDigits yX2_endOfDigits, Cond.code yX2_endOfDigits cX2_endOfDigits 5 (some .int), Cond.methodLink RX2 33 yX2_isSign, Cond.static yX2_isSign, Cond.code yX2_isSign cX2_isSign 1 (some .boolean), Cond.methodLink RX5 181 yX3_take, Cond.instanceMethod yX3_take]
def wsX5_tellText_r3 : List Cond := [Cond.selects RX3 yX3_take yX3_take, Cond.code yX3_take cX3_take 7 (some .boolean), Cond.methodLink RX3 50 yX2_at, Cond.methodLink RX3 55 yX2_kindAt, Cond.methodLink RX3 58 yX2_numberAt, Cond.instanceMethod yX2_numberAt, Cond.selects RX2 yX2_numberAt yX2_numberAt, Cond.code yX2_numberAt cX2_numberAt 5 (some .int), Cond.methodLink RX3 62 yX3_takeLaw, Cond.instanceMethod yX3_takeLaw, Cond.selects RX3 yX3_takeLaw yX3_takeLaw, Cond.code yX3_takeLaw cX3_takeLaw 3 (some .boolean), Cond.methodLink RX3 66 yX3_tellNumber, Cond.instanceMethod yX3_tellNumber, Cond.selects RX3 yX3_tellNumber yX3_tellNumber, Cond.code yX3_tellNumber cX3_tellNumber 3 (some .boolean), Cond.methodLink RX3 44 yX3_least, Cond.static yX3_least, Cond.code yX3_least cX3_least 1 (some .int), Cond.methodLink RX3 47 yX3_greatest, Cond.static yX3_greatest, Cond.code yX3_greatest cX3_greatest 1 (some .int), Cond.methodLink RX3 69 yX3_takeFamily, Cond.instanceMethod yX3_takeFamily]
def wsX5_tellText_r4 : List Cond := [Cond.selects RX3 yX3_takeFamily yX3_takeFamily, Cond.code yX3_takeFamily cX3_takeFamily 6 (some .boolean)]
def wsX5_tellText : List Cond := .code yX5_tellText cX5_tellText 4 (some .int) :: ((wsX5_tellText_r1 ++ (wsX5_tellText_r2 ++ (wsX5_tellText_r3 ++ wsX5_tellText_r4))) ++ wsX50 ++ wsX20 ++ wsX30)
def wsX5_land_r1 : List Cond := [Cond.fieldLink RX5 25 "TillOneOfSort" "text" "LTillOneOfSort$Text;", Cond.methodLink RX5 61 yX2_firstFault, Cond.instanceMethod yX2_firstFault, Cond.selects RX2 yX2_firstFault yX2_firstFault, Cond.initialized RX2, Cond.code yX2_firstFault cX2_firstFault 4 (some .int), Cond.fieldLink RX2 15 "TillOneOfSort$Text" "length" "I", Cond.methodLink RX2 19 yX2_endOfStatement, Cond.instanceMethod yX2_endOfStatement, Cond.selects RX2 yX2_endOfStatement yX2_endOfStatement, Cond.code yX2_endOfStatement cX2_endOfStatement 3 (some .int), Cond.methodLink RX2 23 yX2_at, Cond.instanceMethod yX2_at, Cond.selects RX2 yX2_at yX2_at, Cond.code yX2_at cX2_at 2 (some .int), Cond.fieldLink RX2 9 "TillOneOfSort$Text" "letters" "[I", Cond.methodLink RX2 26 yX2_kindAt, Cond.instanceMethod yX2_kindAt, Cond.selects RX2 yX2_kindAt yX2_kindAt, Cond.code yX2_kindAt cX2_kindAt 2 (some .int), Cond.methodLink RX2 29 yX2_endOfDigits, Cond.instanceMethod yX2_endOfDigits, Cond.selects RX2 yX2_endOfDigits yX2_endOfDigits, Cond.code yX2_endOfDigits cX2_endOfDigits 5 (some .int)]
def wsX5_land_r2 : List Cond := [Cond.methodLink RX2 33 yX2_isSign, Cond.static yX2_isSign, Cond.code yX2_isSign cX2_isSign 1 (some .boolean), Cond.methodLink RX5 65 yX5_tellText, Cond.instanceMethod yX5_tellText, Cond.selects RX5 yX5_tellText yX5_tellText, Cond.initialized RX5, Cond.code yX5_tellText cX5_tellText 4 (some .int), Cond.fieldLink RX5 16 "TillOneOfSort" "draft" "LTillOneOfSort$Told;", Cond.fieldLink RX5 10 "TillOneOfSort" "told" "LTillOneOfSort$Told;", Cond.methodLink RX5 168 yX3_copy, Cond.instanceMethod yX3_copy, Cond.selects RX3 yX3_copy yX3_copy, Cond.initialized RX3, Cond.code yX3_copy cX3_copy 3 none, Cond.fieldLink RX3 9 "TillOneOfSort$Told" "kind" "I", Cond.fieldLink RX3 15 "TillOneOfSort$Told" "figure" "I", Cond.fieldLink RX3 18 "TillOneOfSort$Told" "most" "I", Cond.fieldLink RX3 21 "TillOneOfSort$Told" "chance" "I", Cond.fieldLink RX3 31 "TillOneOfSort$Told" "lean" "I", Cond.fieldLink RX3 34 "TillOneOfSort$Told" "families" "I", Cond.fieldLink RX3 24 "TillOneOfSort$Told" "lengths" "[I", Cond.fieldLink RX3 28 "TillOneOfSort$Told" "sorts" "[I", Cond.methodLink RX3 37 yX3_lengthOf]
def wsX5_land_r3 : List Cond := [Cond.instanceMethod yX3_lengthOf, Cond.selects RX3 yX3_lengthOf yX3_lengthOf, Cond.code yX3_lengthOf cX3_lengthOf 2 (some .int), Cond.methodLink RX3 41 yX3_sortsOf, Cond.instanceMethod yX3_sortsOf, Cond.selects RX3 yX3_sortsOf yX3_sortsOf, Cond.code yX3_sortsOf cX3_sortsOf 2 (some .int), Cond.methodLink RX5 178 yX2_endOfStatement, Cond.methodLink RX5 181 yX3_take, Cond.instanceMethod yX3_take, Cond.selects RX3 yX3_take yX3_take, Cond.code yX3_take cX3_take 7 (some .boolean), Cond.methodLink RX3 50 yX2_at, Cond.methodLink RX3 55 yX2_kindAt, Cond.methodLink RX3 58 yX2_numberAt, Cond.instanceMethod yX2_numberAt, Cond.selects RX2 yX2_numberAt yX2_numberAt, Cond.code yX2_numberAt cX2_numberAt 5 (some .int), Cond.methodLink RX3 62 yX3_takeLaw, Cond.instanceMethod yX3_takeLaw, Cond.selects RX3 yX3_takeLaw yX3_takeLaw, Cond.code yX3_takeLaw cX3_takeLaw 3 (some .boolean), Cond.methodLink RX3 66 yX3_tellNumber, Cond.instanceMethod yX3_tellNumber]
def wsX5_land_r4 : List Cond := [Cond.selects RX3 yX3_tellNumber yX3_tellNumber, Cond.code yX3_tellNumber cX3_tellNumber 3 (some .boolean), Cond.methodLink RX3 44 yX3_least, Cond.static yX3_least, Cond.code yX3_least cX3_least 1 (some .int), Cond.methodLink RX3 47 yX3_greatest, Cond.static yX3_greatest, Cond.code yX3_greatest cX3_greatest 1 (some .int), Cond.methodLink RX3 69 yX3_takeFamily, Cond.instanceMethod yX3_takeFamily, Cond.selects RX3 yX3_takeFamily yX3_takeFamily, Cond.code yX3_takeFamily cX3_takeFamily 6 (some .boolean)]
def wsX5_land : List Cond := .code yX5_land cX5_land 3 (some .int) :: ((wsX5_land_r1 ++ (wsX5_land_r2 ++ (wsX5_land_r3 ++ wsX5_land_r4))) ++ wsX50 ++ wsX20 ++ wsX30)
def wsX5_law : List Cond := .code yX5_law cX5_law 4 (some .int) :: ([.fieldLink RX5 10 "TillOneOfSort" "told" "LTillOneOfSort$Told;", .methodLink RX5 49 yX5_refuse, .instanceMethod yX5_refuse, .selects RX5 yX5_refuse yX5_refuse, .initialized RX5, .code yX5_refuse cX5_refuse 3 (some .int), .fieldLink RX5 29 "TillOneOfSort" "refusals" "[I"] ++ wsX50 ++ wsX30)
def wsX5_set_r1 : List Cond := [Cond.fieldLink RX5 10 "TillOneOfSort" "told" "LTillOneOfSort$Told;", Cond.methodLink RX5 49 yX5_refuse, Cond.instanceMethod yX5_refuse, Cond.selects RX5 yX5_refuse yX5_refuse, Cond.initialized RX5, Cond.code yX5_refuse cX5_refuse 3 (some .int), Cond.fieldLink RX5 29 "TillOneOfSort" "refusals" "[I", Cond.methodLink RX5 74 yX3_least, Cond.static yX3_least, Cond.initialized RX3, Cond.code yX3_least cX3_least 1 (some .int), Cond.methodLink RX5 77 yX3_greatest, Cond.static yX3_greatest, Cond.code yX3_greatest cX3_greatest 1 (some .int), Cond.methodLink RX5 80 yX3_number, Cond.instanceMethod yX3_number, Cond.selects RX3 yX3_number yX3_number, Cond.code yX3_number cX3_number 2 (some .int), Cond.fieldLink RX3 31 "TillOneOfSort$Told" "lean" "I", Cond.fieldLink RX3 21 "TillOneOfSort$Told" "chance" "I", Cond.fieldLink RX3 18 "TillOneOfSort$Told" "most" "I", Cond.methodLink RX5 83 yX3_tellNumber, Cond.instanceMethod yX3_tellNumber, Cond.selects RX3 yX3_tellNumber yX3_tellNumber]
def wsX5_set_r2 : List Cond := [Cond.code yX3_tellNumber cX3_tellNumber 3 (some .boolean), Cond.methodLink RX3 44 yX3_least, Cond.methodLink RX3 47 yX3_greatest]
def wsX5_set : List Cond := .code yX5_set cX5_set 4 (some .int) :: ((wsX5_set_r1 ++ wsX5_set_r2) ++ wsX50 ++ wsX30)
def wsX5_stops : List Cond := .code yX5_stops cX5_stops 4 (some .int) :: ([.fieldLink RX5 10 "TillOneOfSort" "told" "LTillOneOfSort$Told;", .methodLink RX5 49 yX5_refuse, .instanceMethod yX5_refuse, .selects RX5 yX5_refuse yX5_refuse, .initialized RX5, .code yX5_refuse cX5_refuse 3 (some .int), .fieldLink RX5 29 "TillOneOfSort" "refusals" "[I", .methodLink RX5 87 yX5_lawStops, .static yX5_lawStops, .code yX5_lawStops cX5_lawStops 5 (some .boolean)] ++ wsX50 ++ wsX30)
def wsX5_isNoSort : List Cond := .code yX5_isNoSort cX5_isNoSort 1 (some .boolean) :: ([])
def wsX5_refuseLong : List Cond := .code yX5_refuseLong cX5_refuseLong 2 (some .long) :: ([.constantLong RX5 176 (4000000000000000000), .methodLink RX5 49 yX5_refuse, .instanceMethod yX5_refuse, .selects RX5 yX5_refuse yX5_refuse, .initialized RX5, .code yX5_refuse cX5_refuse 3 (some .int), .fieldLink RX5 29 "TillOneOfSort" "refusals" "[I"] ++ wsX50)
def wsX5_tallyOf_r1 : List Cond := [Cond.fieldLink RX5 35 "TillOneOfSort" "tallies" "[LTillOneOfSort$Tally;", Cond.fieldLink RX5 45 "TillOneOfSort" "spare" "LTillOneOfSort$Tally;", Cond.fieldLink RX5 10 "TillOneOfSort" "told" "LTillOneOfSort$Told;", Cond.methodLink RX5 128 yX1_retell, Cond.instanceMethod yX1_retell, Cond.selects RX1 yX1_retell yX1_retell, Cond.initialized RX1, Cond.code yX1_retell cX1_retell 9 none, Cond.fieldLink RX1 18 "TillOneOfSort$Tally" "kind" "I", Cond.fieldLink RX1 26 "TillOneOfSort$Tally" "figure" "I", Cond.fieldLink RX1 29 "TillOneOfSort$Tally" "most" "I", Cond.fieldLink RX1 32 "TillOneOfSort$Tally" "chance" "I", Cond.fieldLink RX1 35 "TillOneOfSort$Tally" "lean" "I", Cond.fieldLink RX1 12 "TillOneOfSort$Tally" "ends" "LTillOneOfSort$Cells;", Cond.fieldLink RX1 22 "TillOneOfSort$Tally" "walk" "LTillOneOfSort$Walk;", Cond.methodLink RX1 38 yX0_clear, Cond.instanceMethod yX0_clear, Cond.selects RX0 yX0_clear yX0_clear, Cond.initialized RX0, Cond.code yX0_clear cX0_clear 1 none, Cond.fieldLink RX0 11 "TillOneOfSort$Cells" "cells" "[J", Cond.methodLink RX0 19 yJ7_fill_d0a16, Cond.static yJ7_fill_d0a16, Cond.initialized RJ7]
def wsX5_tallyOf_r2 : List Cond := [Cond.code yJ7_fill_d0a16 cJ7_fill_d0a16 5 none, Cond.methodLink RX1 41 yX4_begin, Cond.instanceMethod yX4_begin, Cond.selects RX4 yX4_begin yX4_begin, Cond.initialized RX4, Cond.code yX4_begin cX4_begin 2 none, Cond.fieldLink RX4 12 "TillOneOfSort$Walk" "here" "LTillOneOfSort$Cells;", Cond.fieldLink RX4 18 "TillOneOfSort$Walk" "next" "LTillOneOfSort$Cells;", Cond.methodLink RX4 21 yX0_clear, Cond.methodLink RX4 24 yX0_add, Cond.instanceMethod yX0_add, Cond.selects RX0 yX0_add yX0_add, Cond.code yX0_add cX0_add 7 none, Cond.methodLink RX0 15 yX0_placeOf, Cond.static yX0_placeOf, Cond.code yX0_placeOf cX0_placeOf 3 (some .int), Cond.methodLink RX1 47 yX1_goOn, Cond.instanceMethod yX1_goOn, Cond.selects RX1 yX1_goOn yX1_goOn, Cond.code yX1_goOn cX1_goOn 10 none, Cond.methodLink RX1 57 yX0_at, Cond.instanceMethod yX0_at, Cond.selects RX0 yX0_at yX0_at, Cond.code yX0_at cX0_at 5 (some .long)]
def wsX5_tallyOf_r3 : List Cond := [Cond.static yX5_lawStops, Cond.initialized RX5, Cond.code yX5_lawStops cX5_lawStops 5 (some .boolean), Cond.methodLink RX1 69 yX0_add, Cond.static yX5_chanceOfOne, Cond.code yX5_chanceOfOne cX5_chanceOfOne 5 (some .int), Cond.methodLink RX5 211 Lib.Math.min.name, Cond.static Lib.Math.min.name, Cond.initialized "java/lang/Math", Cond.code Lib.Math.min.name Lib.Math.min.code 2 (some .int), Cond.methodLink RX5 216 Lib.Math.max.name, Cond.static Lib.Math.max.name, Cond.code Lib.Math.max.name Lib.Math.max.code 2 (some .int), Cond.methodLink RX1 51 yX4_stepOn, Cond.instanceMethod yX4_stepOn, Cond.selects RX4 yX4_stepOn yX4_stepOn, Cond.code yX4_stepOn cX4_stepOn 2 none]
def wsX5_tallyOf : List Cond := .code yX5_tallyOf cX5_tallyOf 3 (some (.object "TillOneOfSort$Tally")) :: ((wsX5_tallyOf_r1 ++ (wsX5_tallyOf_r2 ++ wsX5_tallyOf_r3)) ++ wsX50 ++ wsX30 ++ wsX10 ++ wsX00 ++ wsX40)
def wsX5_tallyNow_r1 : List Cond := [Cond.fieldLink RX5 10 "TillOneOfSort" "told" "LTillOneOfSort$Told;", Cond.methodLink RX5 185 yX5_tallyOf, Cond.instanceMethod yX5_tallyOf, Cond.selects RX5 yX5_tallyOf yX5_tallyOf, Cond.initialized RX5, Cond.code yX5_tallyOf cX5_tallyOf 3 (some (.object "TillOneOfSort$Tally")), Cond.fieldLink RX5 35 "TillOneOfSort" "tallies" "[LTillOneOfSort$Tally;", Cond.fieldLink RX5 45 "TillOneOfSort" "spare" "LTillOneOfSort$Tally;", Cond.methodLink RX5 128 yX1_retell, Cond.instanceMethod yX1_retell, Cond.selects RX1 yX1_retell yX1_retell, Cond.initialized RX1, Cond.code yX1_retell cX1_retell 9 none, Cond.fieldLink RX1 18 "TillOneOfSort$Tally" "kind" "I", Cond.fieldLink RX1 26 "TillOneOfSort$Tally" "figure" "I", Cond.fieldLink RX1 29 "TillOneOfSort$Tally" "most" "I", Cond.fieldLink RX1 32 "TillOneOfSort$Tally" "chance" "I", Cond.fieldLink RX1 35 "TillOneOfSort$Tally" "lean" "I", Cond.fieldLink RX1 12 "TillOneOfSort$Tally" "ends" "LTillOneOfSort$Cells;", Cond.fieldLink RX1 22 "TillOneOfSort$Tally" "walk" "LTillOneOfSort$Walk;", Cond.methodLink RX1 38 yX0_clear, Cond.instanceMethod yX0_clear, Cond.selects RX0 yX0_clear yX0_clear, Cond.initialized RX0]
def wsX5_tallyNow_r2 : List Cond := [Cond.code yX0_clear cX0_clear 1 none, Cond.fieldLink RX0 11 "TillOneOfSort$Cells" "cells" "[J", Cond.methodLink RX0 19 yJ7_fill_d0a16, Cond.static yJ7_fill_d0a16, Cond.initialized RJ7, Cond.code yJ7_fill_d0a16 cJ7_fill_d0a16 5 none, Cond.methodLink RX1 41 yX4_begin, Cond.instanceMethod yX4_begin, Cond.selects RX4 yX4_begin yX4_begin, Cond.initialized RX4, Cond.code yX4_begin cX4_begin 2 none, Cond.fieldLink RX4 12 "TillOneOfSort$Walk" "here" "LTillOneOfSort$Cells;", Cond.fieldLink RX4 18 "TillOneOfSort$Walk" "next" "LTillOneOfSort$Cells;", Cond.methodLink RX4 21 yX0_clear, Cond.methodLink RX4 24 yX0_add, Cond.instanceMethod yX0_add, Cond.selects RX0 yX0_add yX0_add, Cond.code yX0_add cX0_add 7 none, Cond.methodLink RX0 15 yX0_placeOf, Cond.static yX0_placeOf, Cond.code yX0_placeOf cX0_placeOf 3 (some .int), Cond.methodLink RX1 47 yX1_goOn, Cond.instanceMethod yX1_goOn, Cond.selects RX1 yX1_goOn yX1_goOn]
def wsX5_tallyNow_r3 : List Cond := [Cond.code yX1_goOn cX1_goOn 10 none, Cond.methodLink RX1 57 yX0_at, Cond.instanceMethod yX0_at, Cond.selects RX0 yX0_at yX0_at, Cond.code yX0_at cX0_at 5 (some .long), Cond.static yX5_lawStops, Cond.code yX5_lawStops cX5_lawStops 5 (some .boolean), Cond.methodLink RX1 69 yX0_add, Cond.static yX5_chanceOfOne, Cond.code yX5_chanceOfOne cX5_chanceOfOne 5 (some .int), Cond.methodLink RX5 211 Lib.Math.min.name, Cond.static Lib.Math.min.name, Cond.initialized "java/lang/Math", Cond.code Lib.Math.min.name Lib.Math.min.code 2 (some .int), Cond.methodLink RX5 216 Lib.Math.max.name, Cond.static Lib.Math.max.name, Cond.code Lib.Math.max.name Lib.Math.max.code 2 (some .int), Cond.methodLink RX1 51 yX4_stepOn, Cond.instanceMethod yX4_stepOn, Cond.selects RX4 yX4_stepOn yX4_stepOn, Cond.code yX4_stepOn cX4_stepOn 2 none]
def wsX5_tallyNow : List Cond := .code yX5_tallyNow cX5_tallyNow 1 (some (.object "TillOneOfSort$Tally")) :: ((wsX5_tallyNow_r1 ++ (wsX5_tallyNow_r2 ++ wsX5_tallyNow_r3)) ++ wsX50 ++ wsX30 ++ wsX10 ++ wsX00 ++ wsX40)
def wsX5_greatestDivisor : List Cond := .code yX5_greatestDivisor cX5_greatestDivisor 11 (some .long) :: ([])
def wsX5_fraction : List Cond := .code yX5_fraction cX5_fraction 7 (some .long) :: ([.methodLink RX5 219 yX5_greatestDivisor, .static yX5_greatestDivisor, .initialized RX5, .code yX5_greatestDivisor cX5_greatestDivisor 11 (some .long)])
def wsX5_mean_r1 : List Cond := [Cond.constantLong RX5 107 (61917364224), Cond.methodLink RX5 91 yX5_isNoSort, Cond.static yX5_isNoSort, Cond.initialized RX5, Cond.code yX5_isNoSort cX5_isNoSort 1 (some .boolean), Cond.methodLink RX5 95 yX5_refuseLong, Cond.instanceMethod yX5_refuseLong, Cond.selects RX5 yX5_refuseLong yX5_refuseLong, Cond.code yX5_refuseLong cX5_refuseLong 2 (some .long), Cond.constantLong RX5 176 (4000000000000000000), Cond.methodLink RX5 49 yX5_refuse, Cond.instanceMethod yX5_refuse, Cond.selects RX5 yX5_refuse yX5_refuse, Cond.code yX5_refuse cX5_refuse 3 (some .int), Cond.fieldLink RX5 29 "TillOneOfSort" "refusals" "[I", Cond.methodLink RX5 99 yX5_tallyNow, Cond.instanceMethod yX5_tallyNow, Cond.selects RX5 yX5_tallyNow yX5_tallyNow, Cond.code yX5_tallyNow cX5_tallyNow 1 (some (.object "TillOneOfSort$Tally")), Cond.fieldLink RX5 10 "TillOneOfSort" "told" "LTillOneOfSort$Told;", Cond.methodLink RX5 185 yX5_tallyOf, Cond.instanceMethod yX5_tallyOf, Cond.selects RX5 yX5_tallyOf yX5_tallyOf, Cond.code yX5_tallyOf cX5_tallyOf 3 (some (.object "TillOneOfSort$Tally"))]
def wsX5_mean_r2 : List Cond := [Cond.fieldLink RX5 35 "TillOneOfSort" "tallies" "[LTillOneOfSort$Tally;", Cond.fieldLink RX5 45 "TillOneOfSort" "spare" "LTillOneOfSort$Tally;", Cond.methodLink RX5 128 yX1_retell, Cond.instanceMethod yX1_retell, Cond.selects RX1 yX1_retell yX1_retell, Cond.initialized RX1, Cond.code yX1_retell cX1_retell 9 none, Cond.fieldLink RX1 18 "TillOneOfSort$Tally" "kind" "I", Cond.fieldLink RX1 26 "TillOneOfSort$Tally" "figure" "I", Cond.fieldLink RX1 29 "TillOneOfSort$Tally" "most" "I", Cond.fieldLink RX1 32 "TillOneOfSort$Tally" "chance" "I", Cond.fieldLink RX1 35 "TillOneOfSort$Tally" "lean" "I", Cond.fieldLink RX1 12 "TillOneOfSort$Tally" "ends" "LTillOneOfSort$Cells;", Cond.fieldLink RX1 22 "TillOneOfSort$Tally" "walk" "LTillOneOfSort$Walk;", Cond.methodLink RX1 38 yX0_clear, Cond.instanceMethod yX0_clear, Cond.selects RX0 yX0_clear yX0_clear, Cond.initialized RX0, Cond.code yX0_clear cX0_clear 1 none, Cond.fieldLink RX0 11 "TillOneOfSort$Cells" "cells" "[J", Cond.methodLink RX0 19 yJ7_fill_d0a16, Cond.static yJ7_fill_d0a16, Cond.initialized RJ7, Cond.code yJ7_fill_d0a16 cJ7_fill_d0a16 5 none]
def wsX5_mean_r3 : List Cond := [Cond.methodLink RX1 41 yX4_begin, Cond.instanceMethod yX4_begin, Cond.selects RX4 yX4_begin yX4_begin, Cond.initialized RX4, Cond.code yX4_begin cX4_begin 2 none, Cond.fieldLink RX4 12 "TillOneOfSort$Walk" "here" "LTillOneOfSort$Cells;", Cond.fieldLink RX4 18 "TillOneOfSort$Walk" "next" "LTillOneOfSort$Cells;", Cond.methodLink RX4 21 yX0_clear, Cond.methodLink RX4 24 yX0_add, Cond.instanceMethod yX0_add, Cond.selects RX0 yX0_add yX0_add, Cond.code yX0_add cX0_add 7 none, Cond.methodLink RX0 15 yX0_placeOf, Cond.static yX0_placeOf, Cond.code yX0_placeOf cX0_placeOf 3 (some .int), Cond.methodLink RX1 47 yX1_goOn, Cond.instanceMethod yX1_goOn, Cond.selects RX1 yX1_goOn yX1_goOn, Cond.code yX1_goOn cX1_goOn 10 none, Cond.methodLink RX1 57 yX0_at, Cond.instanceMethod yX0_at, Cond.selects RX0 yX0_at yX0_at, Cond.code yX0_at cX0_at 5 (some .long), Cond.static yX5_lawStops]
def wsX5_mean_r4 : List Cond := [Cond.code yX5_lawStops cX5_lawStops 5 (some .boolean), Cond.methodLink RX1 69 yX0_add, Cond.static yX5_chanceOfOne, Cond.code yX5_chanceOfOne cX5_chanceOfOne 5 (some .int), Cond.methodLink RX5 211 Lib.Math.min.name, Cond.static Lib.Math.min.name, Cond.initialized "java/lang/Math", Cond.code Lib.Math.min.name Lib.Math.min.code 2 (some .int), Cond.methodLink RX5 216 Lib.Math.max.name, Cond.static Lib.Math.max.name, Cond.code Lib.Math.max.name Lib.Math.max.code 2 (some .int), Cond.methodLink RX1 51 yX4_stepOn, Cond.instanceMethod yX4_stepOn, Cond.selects RX4 yX4_stepOn yX4_stepOn, Cond.code yX4_stepOn cX4_stepOn 2 none, Cond.methodLink RX5 103 yX1_sum, Cond.instanceMethod yX1_sum, Cond.selects RX1 yX1_sum yX1_sum, Cond.code yX1_sum cX1_sum 9 (some .long), Cond.methodLink RX1 80 yX1_families, Cond.instanceMethod yX1_families, Cond.selects RX1 yX1_families yX1_families, Cond.code yX1_families cX1_families 3 (some .long), Cond.methodLink RX1 84 yX1_measured]
def wsX5_mean_r5 : List Cond := [Cond.static yX1_measured, Cond.code yX1_measured cX1_measured 5 (some .long), Cond.methodLink RX5 109 yX5_fraction, Cond.static yX5_fraction, Cond.code yX5_fraction cX5_fraction 7 (some .long), Cond.methodLink RX5 219 yX5_greatestDivisor, Cond.static yX5_greatestDivisor, Cond.code yX5_greatestDivisor cX5_greatestDivisor 11 (some .long)]
def wsX5_mean : List Cond := .code yX5_mean cX5_mean 3 (some .long) :: ((wsX5_mean_r1 ++ (wsX5_mean_r2 ++ (wsX5_mean_r3 ++ (wsX5_mean_r4 ++ wsX5_mean_r5)))) ++ wsX50 ++ wsX30 ++ wsX10 ++ wsX00 ++ wsX40)
def wsX5_share_r1 : List Cond := [Cond.constantLong RX5 113 (156031757844480), Cond.methodLink RX5 91 yX5_isNoSort, Cond.static yX5_isNoSort, Cond.initialized RX5, Cond.code yX5_isNoSort cX5_isNoSort 1 (some .boolean), Cond.methodLink RX5 95 yX5_refuseLong, Cond.instanceMethod yX5_refuseLong, Cond.selects RX5 yX5_refuseLong yX5_refuseLong, Cond.code yX5_refuseLong cX5_refuseLong 2 (some .long), Cond.constantLong RX5 176 (4000000000000000000), Cond.methodLink RX5 49 yX5_refuse, Cond.instanceMethod yX5_refuse, Cond.selects RX5 yX5_refuse yX5_refuse, Cond.code yX5_refuse cX5_refuse 3 (some .int), Cond.fieldLink RX5 29 "TillOneOfSort" "refusals" "[I", Cond.methodLink RX5 99 yX5_tallyNow, Cond.instanceMethod yX5_tallyNow, Cond.selects RX5 yX5_tallyNow yX5_tallyNow, Cond.code yX5_tallyNow cX5_tallyNow 1 (some (.object "TillOneOfSort$Tally")), Cond.fieldLink RX5 10 "TillOneOfSort" "told" "LTillOneOfSort$Told;", Cond.methodLink RX5 185 yX5_tallyOf, Cond.instanceMethod yX5_tallyOf, Cond.selects RX5 yX5_tallyOf yX5_tallyOf, Cond.code yX5_tallyOf cX5_tallyOf 3 (some (.object "TillOneOfSort$Tally"))]
def wsX5_share_r2 : List Cond := [Cond.fieldLink RX5 35 "TillOneOfSort" "tallies" "[LTillOneOfSort$Tally;", Cond.fieldLink RX5 45 "TillOneOfSort" "spare" "LTillOneOfSort$Tally;", Cond.methodLink RX5 128 yX1_retell, Cond.instanceMethod yX1_retell, Cond.selects RX1 yX1_retell yX1_retell, Cond.initialized RX1, Cond.code yX1_retell cX1_retell 9 none, Cond.fieldLink RX1 18 "TillOneOfSort$Tally" "kind" "I", Cond.fieldLink RX1 26 "TillOneOfSort$Tally" "figure" "I", Cond.fieldLink RX1 29 "TillOneOfSort$Tally" "most" "I", Cond.fieldLink RX1 32 "TillOneOfSort$Tally" "chance" "I", Cond.fieldLink RX1 35 "TillOneOfSort$Tally" "lean" "I", Cond.fieldLink RX1 12 "TillOneOfSort$Tally" "ends" "LTillOneOfSort$Cells;", Cond.fieldLink RX1 22 "TillOneOfSort$Tally" "walk" "LTillOneOfSort$Walk;", Cond.methodLink RX1 38 yX0_clear, Cond.instanceMethod yX0_clear, Cond.selects RX0 yX0_clear yX0_clear, Cond.initialized RX0, Cond.code yX0_clear cX0_clear 1 none, Cond.fieldLink RX0 11 "TillOneOfSort$Cells" "cells" "[J", Cond.methodLink RX0 19 yJ7_fill_d0a16, Cond.static yJ7_fill_d0a16, Cond.initialized RJ7, Cond.code yJ7_fill_d0a16 cJ7_fill_d0a16 5 none]
def wsX5_share_r3 : List Cond := [Cond.methodLink RX1 41 yX4_begin, Cond.instanceMethod yX4_begin, Cond.selects RX4 yX4_begin yX4_begin, Cond.initialized RX4, Cond.code yX4_begin cX4_begin 2 none, Cond.fieldLink RX4 12 "TillOneOfSort$Walk" "here" "LTillOneOfSort$Cells;", Cond.fieldLink RX4 18 "TillOneOfSort$Walk" "next" "LTillOneOfSort$Cells;", Cond.methodLink RX4 21 yX0_clear, Cond.methodLink RX4 24 yX0_add, Cond.instanceMethod yX0_add, Cond.selects RX0 yX0_add yX0_add, Cond.code yX0_add cX0_add 7 none, Cond.methodLink RX0 15 yX0_placeOf, Cond.static yX0_placeOf, Cond.code yX0_placeOf cX0_placeOf 3 (some .int), Cond.methodLink RX1 47 yX1_goOn, Cond.instanceMethod yX1_goOn, Cond.selects RX1 yX1_goOn yX1_goOn, Cond.code yX1_goOn cX1_goOn 10 none, Cond.methodLink RX1 57 yX0_at, Cond.instanceMethod yX0_at, Cond.selects RX0 yX0_at yX0_at, Cond.code yX0_at cX0_at 5 (some .long), Cond.static yX5_lawStops]
def wsX5_share_r4 : List Cond := [Cond.code yX5_lawStops cX5_lawStops 5 (some .boolean), Cond.methodLink RX1 69 yX0_add, Cond.static yX5_chanceOfOne, Cond.code yX5_chanceOfOne cX5_chanceOfOne 5 (some .int), Cond.methodLink RX5 211 Lib.Math.min.name, Cond.static Lib.Math.min.name, Cond.initialized "java/lang/Math", Cond.code Lib.Math.min.name Lib.Math.min.code 2 (some .int), Cond.methodLink RX5 216 Lib.Math.max.name, Cond.static Lib.Math.max.name, Cond.code Lib.Math.max.name Lib.Math.max.code 2 (some .int), Cond.methodLink RX1 51 yX4_stepOn, Cond.instanceMethod yX4_stepOn, Cond.selects RX4 yX4_stepOn yX4_stepOn, Cond.code yX4_stepOn cX4_stepOn 2 none, Cond.methodLink RX5 103 yX1_sum, Cond.instanceMethod yX1_sum, Cond.selects RX1 yX1_sum yX1_sum, Cond.code yX1_sum cX1_sum 9 (some .long), Cond.methodLink RX1 80 yX1_families, Cond.instanceMethod yX1_families, Cond.selects RX1 yX1_families yX1_families, Cond.code yX1_families cX1_families 3 (some .long), Cond.methodLink RX1 84 yX1_measured]
def wsX5_share_r5 : List Cond := [Cond.static yX1_measured, Cond.code yX1_measured cX1_measured 5 (some .long), Cond.methodLink RX5 109 yX5_fraction, Cond.static yX5_fraction, Cond.code yX5_fraction cX5_fraction 7 (some .long), Cond.methodLink RX5 219 yX5_greatestDivisor, Cond.static yX5_greatestDivisor, Cond.code yX5_greatestDivisor cX5_greatestDivisor 11 (some .long)]
def wsX5_share : List Cond := .code yX5_share cX5_share 2 (some .long) :: ((wsX5_share_r1 ++ (wsX5_share_r2 ++ (wsX5_share_r3 ++ (wsX5_share_r4 ++ wsX5_share_r5)))) ++ wsX50 ++ wsX30 ++ wsX10 ++ wsX00 ++ wsX40)
def wsX5_all_r1 : List Cond := [Cond.methodLink RX5 91 yX5_isNoSort, Cond.static yX5_isNoSort, Cond.initialized RX5, Cond.code yX5_isNoSort cX5_isNoSort 1 (some .boolean), Cond.methodLink RX5 95 yX5_refuseLong, Cond.instanceMethod yX5_refuseLong, Cond.selects RX5 yX5_refuseLong yX5_refuseLong, Cond.code yX5_refuseLong cX5_refuseLong 2 (some .long), Cond.constantLong RX5 176 (4000000000000000000), Cond.methodLink RX5 49 yX5_refuse, Cond.instanceMethod yX5_refuse, Cond.selects RX5 yX5_refuse yX5_refuse, Cond.code yX5_refuse cX5_refuse 3 (some .int), Cond.fieldLink RX5 29 "TillOneOfSort" "refusals" "[I", Cond.methodLink RX5 99 yX5_tallyNow, Cond.instanceMethod yX5_tallyNow, Cond.selects RX5 yX5_tallyNow yX5_tallyNow, Cond.code yX5_tallyNow cX5_tallyNow 1 (some (.object "TillOneOfSort$Tally")), Cond.fieldLink RX5 10 "TillOneOfSort" "told" "LTillOneOfSort$Told;", Cond.methodLink RX5 185 yX5_tallyOf, Cond.instanceMethod yX5_tallyOf, Cond.selects RX5 yX5_tallyOf yX5_tallyOf, Cond.code yX5_tallyOf cX5_tallyOf 3 (some (.object "TillOneOfSort$Tally")), Cond.fieldLink RX5 35 "TillOneOfSort" "tallies" "[LTillOneOfSort$Tally;"]
def wsX5_all_r2 : List Cond := [Cond.fieldLink RX5 45 "TillOneOfSort" "spare" "LTillOneOfSort$Tally;", Cond.methodLink RX5 128 yX1_retell, Cond.instanceMethod yX1_retell, Cond.selects RX1 yX1_retell yX1_retell, Cond.initialized RX1, Cond.code yX1_retell cX1_retell 9 none, Cond.fieldLink RX1 18 "TillOneOfSort$Tally" "kind" "I", Cond.fieldLink RX1 26 "TillOneOfSort$Tally" "figure" "I", Cond.fieldLink RX1 29 "TillOneOfSort$Tally" "most" "I", Cond.fieldLink RX1 32 "TillOneOfSort$Tally" "chance" "I", Cond.fieldLink RX1 35 "TillOneOfSort$Tally" "lean" "I", Cond.fieldLink RX1 12 "TillOneOfSort$Tally" "ends" "LTillOneOfSort$Cells;", Cond.fieldLink RX1 22 "TillOneOfSort$Tally" "walk" "LTillOneOfSort$Walk;", Cond.methodLink RX1 38 yX0_clear, Cond.instanceMethod yX0_clear, Cond.selects RX0 yX0_clear yX0_clear, Cond.initialized RX0, Cond.code yX0_clear cX0_clear 1 none, Cond.fieldLink RX0 11 "TillOneOfSort$Cells" "cells" "[J", Cond.methodLink RX0 19 yJ7_fill_d0a16, Cond.static yJ7_fill_d0a16, Cond.initialized RJ7, Cond.code yJ7_fill_d0a16 cJ7_fill_d0a16 5 none, Cond.methodLink RX1 41 yX4_begin]
def wsX5_all_r3 : List Cond := [Cond.instanceMethod yX4_begin, Cond.selects RX4 yX4_begin yX4_begin, Cond.initialized RX4, Cond.code yX4_begin cX4_begin 2 none, Cond.fieldLink RX4 12 "TillOneOfSort$Walk" "here" "LTillOneOfSort$Cells;", Cond.fieldLink RX4 18 "TillOneOfSort$Walk" "next" "LTillOneOfSort$Cells;", Cond.methodLink RX4 21 yX0_clear, Cond.methodLink RX4 24 yX0_add, Cond.instanceMethod yX0_add, Cond.selects RX0 yX0_add yX0_add, Cond.code yX0_add cX0_add 7 none, Cond.methodLink RX0 15 yX0_placeOf, Cond.static yX0_placeOf, Cond.code yX0_placeOf cX0_placeOf 3 (some .int), Cond.methodLink RX1 47 yX1_goOn, Cond.instanceMethod yX1_goOn, Cond.selects RX1 yX1_goOn yX1_goOn, Cond.code yX1_goOn cX1_goOn 10 none, Cond.methodLink RX1 57 yX0_at, Cond.instanceMethod yX0_at, Cond.selects RX0 yX0_at yX0_at, Cond.code yX0_at cX0_at 5 (some .long), Cond.static yX5_lawStops, Cond.code yX5_lawStops cX5_lawStops 5 (some .boolean)]
def wsX5_all_r4 : List Cond := [Cond.methodLink RX1 69 yX0_add, Cond.static yX5_chanceOfOne, Cond.code yX5_chanceOfOne cX5_chanceOfOne 5 (some .int), Cond.methodLink RX5 211 Lib.Math.min.name, Cond.static Lib.Math.min.name, Cond.initialized "java/lang/Math", Cond.code Lib.Math.min.name Lib.Math.min.code 2 (some .int), Cond.methodLink RX5 216 Lib.Math.max.name, Cond.static Lib.Math.max.name, Cond.code Lib.Math.max.name Lib.Math.max.code 2 (some .int), Cond.methodLink RX1 51 yX4_stepOn, Cond.instanceMethod yX4_stepOn, Cond.selects RX4 yX4_stepOn yX4_stepOn, Cond.code yX4_stepOn cX4_stepOn 2 none, Cond.methodLink RX5 103 yX1_sum, Cond.instanceMethod yX1_sum, Cond.selects RX1 yX1_sum yX1_sum, Cond.code yX1_sum cX1_sum 9 (some .long), Cond.methodLink RX1 80 yX1_families, Cond.instanceMethod yX1_families, Cond.selects RX1 yX1_families yX1_families, Cond.code yX1_families cX1_families 3 (some .long), Cond.methodLink RX1 84 yX1_measured, Cond.static yX1_measured]
def wsX5_all_r5 : List Cond := [Cond.code yX1_measured cX1_measured 5 (some .long), Cond.methodLink RX5 109 yX5_fraction, Cond.static yX5_fraction, Cond.code yX5_fraction cX5_fraction 7 (some .long), Cond.methodLink RX5 219 yX5_greatestDivisor, Cond.static yX5_greatestDivisor, Cond.code yX5_greatestDivisor cX5_greatestDivisor 11 (some .long)]
def wsX5_all : List Cond := .code yX5_all cX5_all 3 (some .long) :: ((wsX5_all_r1 ++ (wsX5_all_r2 ++ (wsX5_all_r3 ++ (wsX5_all_r4 ++ wsX5_all_r5)))) ++ wsX50 ++ wsX30 ++ wsX10 ++ wsX00 ++ wsX40)
def wsX5_more_r1 : List Cond := [Cond.constantLong RX5 107 (61917364224), Cond.methodLink RX5 91 yX5_isNoSort, Cond.static yX5_isNoSort, Cond.initialized RX5, Cond.code yX5_isNoSort cX5_isNoSort 1 (some .boolean), Cond.methodLink RX5 95 yX5_refuseLong, Cond.instanceMethod yX5_refuseLong, Cond.selects RX5 yX5_refuseLong yX5_refuseLong, Cond.code yX5_refuseLong cX5_refuseLong 2 (some .long), Cond.constantLong RX5 176 (4000000000000000000), Cond.methodLink RX5 49 yX5_refuse, Cond.instanceMethod yX5_refuse, Cond.selects RX5 yX5_refuse yX5_refuse, Cond.code yX5_refuse cX5_refuse 3 (some .int), Cond.fieldLink RX5 29 "TillOneOfSort" "refusals" "[I", Cond.methodLink RX5 99 yX5_tallyNow, Cond.instanceMethod yX5_tallyNow, Cond.selects RX5 yX5_tallyNow yX5_tallyNow, Cond.code yX5_tallyNow cX5_tallyNow 1 (some (.object "TillOneOfSort$Tally")), Cond.fieldLink RX5 10 "TillOneOfSort" "told" "LTillOneOfSort$Told;", Cond.methodLink RX5 185 yX5_tallyOf, Cond.instanceMethod yX5_tallyOf, Cond.selects RX5 yX5_tallyOf yX5_tallyOf, Cond.code yX5_tallyOf cX5_tallyOf 3 (some (.object "TillOneOfSort$Tally"))]
def wsX5_more_r2 : List Cond := [Cond.fieldLink RX5 35 "TillOneOfSort" "tallies" "[LTillOneOfSort$Tally;", Cond.fieldLink RX5 45 "TillOneOfSort" "spare" "LTillOneOfSort$Tally;", Cond.methodLink RX5 128 yX1_retell, Cond.instanceMethod yX1_retell, Cond.selects RX1 yX1_retell yX1_retell, Cond.initialized RX1, Cond.code yX1_retell cX1_retell 9 none, Cond.fieldLink RX1 18 "TillOneOfSort$Tally" "kind" "I", Cond.fieldLink RX1 26 "TillOneOfSort$Tally" "figure" "I", Cond.fieldLink RX1 29 "TillOneOfSort$Tally" "most" "I", Cond.fieldLink RX1 32 "TillOneOfSort$Tally" "chance" "I", Cond.fieldLink RX1 35 "TillOneOfSort$Tally" "lean" "I", Cond.fieldLink RX1 12 "TillOneOfSort$Tally" "ends" "LTillOneOfSort$Cells;", Cond.fieldLink RX1 22 "TillOneOfSort$Tally" "walk" "LTillOneOfSort$Walk;", Cond.methodLink RX1 38 yX0_clear, Cond.instanceMethod yX0_clear, Cond.selects RX0 yX0_clear yX0_clear, Cond.initialized RX0, Cond.code yX0_clear cX0_clear 1 none, Cond.fieldLink RX0 11 "TillOneOfSort$Cells" "cells" "[J", Cond.methodLink RX0 19 yJ7_fill_d0a16, Cond.static yJ7_fill_d0a16, Cond.initialized RJ7, Cond.code yJ7_fill_d0a16 cJ7_fill_d0a16 5 none]
def wsX5_more_r3 : List Cond := [Cond.methodLink RX1 41 yX4_begin, Cond.instanceMethod yX4_begin, Cond.selects RX4 yX4_begin yX4_begin, Cond.initialized RX4, Cond.code yX4_begin cX4_begin 2 none, Cond.fieldLink RX4 12 "TillOneOfSort$Walk" "here" "LTillOneOfSort$Cells;", Cond.fieldLink RX4 18 "TillOneOfSort$Walk" "next" "LTillOneOfSort$Cells;", Cond.methodLink RX4 21 yX0_clear, Cond.methodLink RX4 24 yX0_add, Cond.instanceMethod yX0_add, Cond.selects RX0 yX0_add yX0_add, Cond.code yX0_add cX0_add 7 none, Cond.methodLink RX0 15 yX0_placeOf, Cond.static yX0_placeOf, Cond.code yX0_placeOf cX0_placeOf 3 (some .int), Cond.methodLink RX1 47 yX1_goOn, Cond.instanceMethod yX1_goOn, Cond.selects RX1 yX1_goOn yX1_goOn, Cond.code yX1_goOn cX1_goOn 10 none, Cond.methodLink RX1 57 yX0_at, Cond.instanceMethod yX0_at, Cond.selects RX0 yX0_at yX0_at, Cond.code yX0_at cX0_at 5 (some .long), Cond.static yX5_lawStops]
def wsX5_more_r4 : List Cond := [Cond.code yX5_lawStops cX5_lawStops 5 (some .boolean), Cond.methodLink RX1 69 yX0_add, Cond.static yX5_chanceOfOne, Cond.code yX5_chanceOfOne cX5_chanceOfOne 5 (some .int), Cond.methodLink RX5 211 Lib.Math.min.name, Cond.static Lib.Math.min.name, Cond.initialized "java/lang/Math", Cond.code Lib.Math.min.name Lib.Math.min.code 2 (some .int), Cond.methodLink RX5 216 Lib.Math.max.name, Cond.static Lib.Math.max.name, Cond.code Lib.Math.max.name Lib.Math.max.code 2 (some .int), Cond.methodLink RX1 51 yX4_stepOn, Cond.instanceMethod yX4_stepOn, Cond.selects RX4 yX4_stepOn yX4_stepOn, Cond.code yX4_stepOn cX4_stepOn 2 none, Cond.methodLink RX5 103 yX1_sum, Cond.instanceMethod yX1_sum, Cond.selects RX1 yX1_sum yX1_sum, Cond.code yX1_sum cX1_sum 9 (some .long), Cond.methodLink RX1 80 yX1_families, Cond.instanceMethod yX1_families, Cond.selects RX1 yX1_families yX1_families, Cond.code yX1_families cX1_families 3 (some .long), Cond.methodLink RX1 84 yX1_measured]
def wsX5_more_r5 : List Cond := [Cond.static yX1_measured, Cond.code yX1_measured cX1_measured 5 (some .long), Cond.methodLink RX5 109 yX5_fraction, Cond.static yX5_fraction, Cond.code yX5_fraction cX5_fraction 7 (some .long), Cond.methodLink RX5 219 yX5_greatestDivisor, Cond.static yX5_greatestDivisor, Cond.code yX5_greatestDivisor cX5_greatestDivisor 11 (some .long)]
def wsX5_more : List Cond := .code yX5_more cX5_more 3 (some .long) :: ((wsX5_more_r1 ++ (wsX5_more_r2 ++ (wsX5_more_r3 ++ (wsX5_more_r4 ++ wsX5_more_r5)))) ++ wsX50 ++ wsX30 ++ wsX10 ++ wsX00 ++ wsX40)
def wsX5_size_r1 : List Cond := [Cond.constantLong RX5 107 (61917364224), Cond.methodLink RX5 95 yX5_refuseLong, Cond.instanceMethod yX5_refuseLong, Cond.selects RX5 yX5_refuseLong yX5_refuseLong, Cond.initialized RX5, Cond.code yX5_refuseLong cX5_refuseLong 2 (some .long), Cond.constantLong RX5 176 (4000000000000000000), Cond.methodLink RX5 49 yX5_refuse, Cond.instanceMethod yX5_refuse, Cond.selects RX5 yX5_refuse yX5_refuse, Cond.code yX5_refuse cX5_refuse 3 (some .int), Cond.fieldLink RX5 29 "TillOneOfSort" "refusals" "[I", Cond.methodLink RX5 91 yX5_isNoSort, Cond.static yX5_isNoSort, Cond.code yX5_isNoSort cX5_isNoSort 1 (some .boolean), Cond.methodLink RX5 99 yX5_tallyNow, Cond.instanceMethod yX5_tallyNow, Cond.selects RX5 yX5_tallyNow yX5_tallyNow, Cond.code yX5_tallyNow cX5_tallyNow 1 (some (.object "TillOneOfSort$Tally")), Cond.fieldLink RX5 10 "TillOneOfSort" "told" "LTillOneOfSort$Told;", Cond.methodLink RX5 185 yX5_tallyOf, Cond.instanceMethod yX5_tallyOf, Cond.selects RX5 yX5_tallyOf yX5_tallyOf, Cond.code yX5_tallyOf cX5_tallyOf 3 (some (.object "TillOneOfSort$Tally"))]
def wsX5_size_r2 : List Cond := [Cond.fieldLink RX5 35 "TillOneOfSort" "tallies" "[LTillOneOfSort$Tally;", Cond.fieldLink RX5 45 "TillOneOfSort" "spare" "LTillOneOfSort$Tally;", Cond.methodLink RX5 128 yX1_retell, Cond.instanceMethod yX1_retell, Cond.selects RX1 yX1_retell yX1_retell, Cond.initialized RX1, Cond.code yX1_retell cX1_retell 9 none, Cond.fieldLink RX1 18 "TillOneOfSort$Tally" "kind" "I", Cond.fieldLink RX1 26 "TillOneOfSort$Tally" "figure" "I", Cond.fieldLink RX1 29 "TillOneOfSort$Tally" "most" "I", Cond.fieldLink RX1 32 "TillOneOfSort$Tally" "chance" "I", Cond.fieldLink RX1 35 "TillOneOfSort$Tally" "lean" "I", Cond.fieldLink RX1 12 "TillOneOfSort$Tally" "ends" "LTillOneOfSort$Cells;", Cond.fieldLink RX1 22 "TillOneOfSort$Tally" "walk" "LTillOneOfSort$Walk;", Cond.methodLink RX1 38 yX0_clear, Cond.instanceMethod yX0_clear, Cond.selects RX0 yX0_clear yX0_clear, Cond.initialized RX0, Cond.code yX0_clear cX0_clear 1 none, Cond.fieldLink RX0 11 "TillOneOfSort$Cells" "cells" "[J", Cond.methodLink RX0 19 yJ7_fill_d0a16, Cond.static yJ7_fill_d0a16, Cond.initialized RJ7, Cond.code yJ7_fill_d0a16 cJ7_fill_d0a16 5 none]
def wsX5_size_r3 : List Cond := [Cond.methodLink RX1 41 yX4_begin, Cond.instanceMethod yX4_begin, Cond.selects RX4 yX4_begin yX4_begin, Cond.initialized RX4, Cond.code yX4_begin cX4_begin 2 none, Cond.fieldLink RX4 12 "TillOneOfSort$Walk" "here" "LTillOneOfSort$Cells;", Cond.fieldLink RX4 18 "TillOneOfSort$Walk" "next" "LTillOneOfSort$Cells;", Cond.methodLink RX4 21 yX0_clear, Cond.methodLink RX4 24 yX0_add, Cond.instanceMethod yX0_add, Cond.selects RX0 yX0_add yX0_add, Cond.code yX0_add cX0_add 7 none, Cond.methodLink RX0 15 yX0_placeOf, Cond.static yX0_placeOf, Cond.code yX0_placeOf cX0_placeOf 3 (some .int), Cond.methodLink RX1 47 yX1_goOn, Cond.instanceMethod yX1_goOn, Cond.selects RX1 yX1_goOn yX1_goOn, Cond.code yX1_goOn cX1_goOn 10 none, Cond.methodLink RX1 57 yX0_at, Cond.instanceMethod yX0_at, Cond.selects RX0 yX0_at yX0_at, Cond.code yX0_at cX0_at 5 (some .long), Cond.static yX5_lawStops]
def wsX5_size_r4 : List Cond := [Cond.code yX5_lawStops cX5_lawStops 5 (some .boolean), Cond.methodLink RX1 69 yX0_add, Cond.static yX5_chanceOfOne, Cond.code yX5_chanceOfOne cX5_chanceOfOne 5 (some .int), Cond.methodLink RX5 211 Lib.Math.min.name, Cond.static Lib.Math.min.name, Cond.initialized "java/lang/Math", Cond.code Lib.Math.min.name Lib.Math.min.code 2 (some .int), Cond.methodLink RX5 216 Lib.Math.max.name, Cond.static Lib.Math.max.name, Cond.code Lib.Math.max.name Lib.Math.max.code 2 (some .int), Cond.methodLink RX1 51 yX4_stepOn, Cond.instanceMethod yX4_stepOn, Cond.selects RX4 yX4_stepOn yX4_stepOn, Cond.code yX4_stepOn cX4_stepOn 2 none, Cond.methodLink RX5 103 yX1_sum, Cond.instanceMethod yX1_sum, Cond.selects RX1 yX1_sum yX1_sum, Cond.code yX1_sum cX1_sum 9 (some .long), Cond.methodLink RX1 80 yX1_families, Cond.instanceMethod yX1_families, Cond.selects RX1 yX1_families yX1_families, Cond.code yX1_families cX1_families 3 (some .long), Cond.methodLink RX1 84 yX1_measured]
def wsX5_size_r5 : List Cond := [Cond.static yX1_measured, Cond.code yX1_measured cX1_measured 5 (some .long), Cond.methodLink RX5 109 yX5_fraction, Cond.static yX5_fraction, Cond.code yX5_fraction cX5_fraction 7 (some .long), Cond.methodLink RX5 219 yX5_greatestDivisor, Cond.static yX5_greatestDivisor, Cond.code yX5_greatestDivisor cX5_greatestDivisor 11 (some .long)]
def wsX5_size : List Cond := .code yX5_size cX5_size 3 (some .long) :: ((wsX5_size_r1 ++ (wsX5_size_r2 ++ (wsX5_size_r3 ++ (wsX5_size_r4 ++ wsX5_size_r5)))) ++ wsX50 ++ wsX30 ++ wsX10 ++ wsX00 ++ wsX40)
def wsX5_met_r1 : List Cond := [Cond.methodLink RX5 91 yX5_isNoSort, Cond.static yX5_isNoSort, Cond.initialized RX5, Cond.code yX5_isNoSort cX5_isNoSort 1 (some .boolean), Cond.methodLink RX5 95 yX5_refuseLong, Cond.instanceMethod yX5_refuseLong, Cond.selects RX5 yX5_refuseLong yX5_refuseLong, Cond.code yX5_refuseLong cX5_refuseLong 2 (some .long), Cond.constantLong RX5 176 (4000000000000000000), Cond.methodLink RX5 49 yX5_refuse, Cond.instanceMethod yX5_refuse, Cond.selects RX5 yX5_refuse yX5_refuse, Cond.code yX5_refuse cX5_refuse 3 (some .int), Cond.fieldLink RX5 29 "TillOneOfSort" "refusals" "[I", Cond.methodLink RX5 99 yX5_tallyNow, Cond.instanceMethod yX5_tallyNow, Cond.selects RX5 yX5_tallyNow yX5_tallyNow, Cond.code yX5_tallyNow cX5_tallyNow 1 (some (.object "TillOneOfSort$Tally")), Cond.fieldLink RX5 10 "TillOneOfSort" "told" "LTillOneOfSort$Told;", Cond.methodLink RX5 185 yX5_tallyOf, Cond.instanceMethod yX5_tallyOf, Cond.selects RX5 yX5_tallyOf yX5_tallyOf, Cond.code yX5_tallyOf cX5_tallyOf 3 (some (.object "TillOneOfSort$Tally")), Cond.fieldLink RX5 35 "TillOneOfSort" "tallies" "[LTillOneOfSort$Tally;"]
def wsX5_met_r2 : List Cond := [Cond.fieldLink RX5 45 "TillOneOfSort" "spare" "LTillOneOfSort$Tally;", Cond.methodLink RX5 128 yX1_retell, Cond.instanceMethod yX1_retell, Cond.selects RX1 yX1_retell yX1_retell, Cond.initialized RX1, Cond.code yX1_retell cX1_retell 9 none, Cond.fieldLink RX1 18 "TillOneOfSort$Tally" "kind" "I", Cond.fieldLink RX1 26 "TillOneOfSort$Tally" "figure" "I", Cond.fieldLink RX1 29 "TillOneOfSort$Tally" "most" "I", Cond.fieldLink RX1 32 "TillOneOfSort$Tally" "chance" "I", Cond.fieldLink RX1 35 "TillOneOfSort$Tally" "lean" "I", Cond.fieldLink RX1 12 "TillOneOfSort$Tally" "ends" "LTillOneOfSort$Cells;", Cond.fieldLink RX1 22 "TillOneOfSort$Tally" "walk" "LTillOneOfSort$Walk;", Cond.methodLink RX1 38 yX0_clear, Cond.instanceMethod yX0_clear, Cond.selects RX0 yX0_clear yX0_clear, Cond.initialized RX0, Cond.code yX0_clear cX0_clear 1 none, Cond.fieldLink RX0 11 "TillOneOfSort$Cells" "cells" "[J", Cond.methodLink RX0 19 yJ7_fill_d0a16, Cond.static yJ7_fill_d0a16, Cond.initialized RJ7, Cond.code yJ7_fill_d0a16 cJ7_fill_d0a16 5 none, Cond.methodLink RX1 41 yX4_begin]
def wsX5_met_r3 : List Cond := [Cond.instanceMethod yX4_begin, Cond.selects RX4 yX4_begin yX4_begin, Cond.initialized RX4, Cond.code yX4_begin cX4_begin 2 none, Cond.fieldLink RX4 12 "TillOneOfSort$Walk" "here" "LTillOneOfSort$Cells;", Cond.fieldLink RX4 18 "TillOneOfSort$Walk" "next" "LTillOneOfSort$Cells;", Cond.methodLink RX4 21 yX0_clear, Cond.methodLink RX4 24 yX0_add, Cond.instanceMethod yX0_add, Cond.selects RX0 yX0_add yX0_add, Cond.code yX0_add cX0_add 7 none, Cond.methodLink RX0 15 yX0_placeOf, Cond.static yX0_placeOf, Cond.code yX0_placeOf cX0_placeOf 3 (some .int), Cond.methodLink RX1 47 yX1_goOn, Cond.instanceMethod yX1_goOn, Cond.selects RX1 yX1_goOn yX1_goOn, Cond.code yX1_goOn cX1_goOn 10 none, Cond.methodLink RX1 57 yX0_at, Cond.instanceMethod yX0_at, Cond.selects RX0 yX0_at yX0_at, Cond.code yX0_at cX0_at 5 (some .long), Cond.static yX5_lawStops, Cond.code yX5_lawStops cX5_lawStops 5 (some .boolean)]
def wsX5_met_r4 : List Cond := [Cond.methodLink RX1 69 yX0_add, Cond.static yX5_chanceOfOne, Cond.code yX5_chanceOfOne cX5_chanceOfOne 5 (some .int), Cond.methodLink RX5 211 Lib.Math.min.name, Cond.static Lib.Math.min.name, Cond.initialized "java/lang/Math", Cond.code Lib.Math.min.name Lib.Math.min.code 2 (some .int), Cond.methodLink RX5 216 Lib.Math.max.name, Cond.static Lib.Math.max.name, Cond.code Lib.Math.max.name Lib.Math.max.code 2 (some .int), Cond.methodLink RX1 51 yX4_stepOn, Cond.instanceMethod yX4_stepOn, Cond.selects RX4 yX4_stepOn yX4_stepOn, Cond.code yX4_stepOn cX4_stepOn 2 none, Cond.methodLink RX5 103 yX1_sum, Cond.instanceMethod yX1_sum, Cond.selects RX1 yX1_sum yX1_sum, Cond.code yX1_sum cX1_sum 9 (some .long), Cond.methodLink RX1 80 yX1_families, Cond.instanceMethod yX1_families, Cond.selects RX1 yX1_families yX1_families, Cond.code yX1_families cX1_families 3 (some .long), Cond.methodLink RX1 84 yX1_measured, Cond.static yX1_measured]
def wsX5_met_r5 : List Cond := [Cond.code yX1_measured cX1_measured 5 (some .long), Cond.methodLink RX5 109 yX5_fraction, Cond.static yX5_fraction, Cond.code yX5_fraction cX5_fraction 7 (some .long), Cond.methodLink RX5 219 yX5_greatestDivisor, Cond.static yX5_greatestDivisor, Cond.code yX5_greatestDivisor cX5_greatestDivisor 11 (some .long)]
def wsX5_met : List Cond := .code yX5_met cX5_met 5 (some .long) :: ((wsX5_met_r1 ++ (wsX5_met_r2 ++ (wsX5_met_r3 ++ (wsX5_met_r4 ++ wsX5_met_r5)))) ++ wsX50 ++ wsX30 ++ wsX10 ++ wsX00 ++ wsX40)
def wsX5_says_r1 : List Cond := [Cond.methodLink RX5 95 yX5_refuseLong, Cond.instanceMethod yX5_refuseLong, Cond.selects RX5 yX5_refuseLong yX5_refuseLong, Cond.initialized RX5, Cond.code yX5_refuseLong cX5_refuseLong 2 (some .long), Cond.constantLong RX5 176 (4000000000000000000), Cond.methodLink RX5 49 yX5_refuse, Cond.instanceMethod yX5_refuse, Cond.selects RX5 yX5_refuse yX5_refuse, Cond.code yX5_refuse cX5_refuse 3 (some .int), Cond.fieldLink RX5 29 "TillOneOfSort" "refusals" "[I", Cond.methodLink RX5 91 yX5_isNoSort, Cond.static yX5_isNoSort, Cond.code yX5_isNoSort cX5_isNoSort 1 (some .boolean), Cond.methodLink RX5 99 yX5_tallyNow, Cond.instanceMethod yX5_tallyNow, Cond.selects RX5 yX5_tallyNow yX5_tallyNow, Cond.code yX5_tallyNow cX5_tallyNow 1 (some (.object "TillOneOfSort$Tally")), Cond.fieldLink RX5 10 "TillOneOfSort" "told" "LTillOneOfSort$Told;", Cond.methodLink RX5 185 yX5_tallyOf, Cond.instanceMethod yX5_tallyOf, Cond.selects RX5 yX5_tallyOf yX5_tallyOf, Cond.code yX5_tallyOf cX5_tallyOf 3 (some (.object "TillOneOfSort$Tally")), Cond.fieldLink RX5 35 "TillOneOfSort" "tallies" "[LTillOneOfSort$Tally;"]
def wsX5_says_r2 : List Cond := [Cond.fieldLink RX5 45 "TillOneOfSort" "spare" "LTillOneOfSort$Tally;", Cond.methodLink RX5 128 yX1_retell, Cond.instanceMethod yX1_retell, Cond.selects RX1 yX1_retell yX1_retell, Cond.initialized RX1, Cond.code yX1_retell cX1_retell 9 none, Cond.fieldLink RX1 18 "TillOneOfSort$Tally" "kind" "I", Cond.fieldLink RX1 26 "TillOneOfSort$Tally" "figure" "I", Cond.fieldLink RX1 29 "TillOneOfSort$Tally" "most" "I", Cond.fieldLink RX1 32 "TillOneOfSort$Tally" "chance" "I", Cond.fieldLink RX1 35 "TillOneOfSort$Tally" "lean" "I", Cond.fieldLink RX1 12 "TillOneOfSort$Tally" "ends" "LTillOneOfSort$Cells;", Cond.fieldLink RX1 22 "TillOneOfSort$Tally" "walk" "LTillOneOfSort$Walk;", Cond.methodLink RX1 38 yX0_clear, Cond.instanceMethod yX0_clear, Cond.selects RX0 yX0_clear yX0_clear, Cond.initialized RX0, Cond.code yX0_clear cX0_clear 1 none, Cond.fieldLink RX0 11 "TillOneOfSort$Cells" "cells" "[J", Cond.methodLink RX0 19 yJ7_fill_d0a16, Cond.static yJ7_fill_d0a16, Cond.initialized RJ7, Cond.code yJ7_fill_d0a16 cJ7_fill_d0a16 5 none, Cond.methodLink RX1 41 yX4_begin]
def wsX5_says_r3 : List Cond := [Cond.instanceMethod yX4_begin, Cond.selects RX4 yX4_begin yX4_begin, Cond.initialized RX4, Cond.code yX4_begin cX4_begin 2 none, Cond.fieldLink RX4 12 "TillOneOfSort$Walk" "here" "LTillOneOfSort$Cells;", Cond.fieldLink RX4 18 "TillOneOfSort$Walk" "next" "LTillOneOfSort$Cells;", Cond.methodLink RX4 21 yX0_clear, Cond.methodLink RX4 24 yX0_add, Cond.instanceMethod yX0_add, Cond.selects RX0 yX0_add yX0_add, Cond.code yX0_add cX0_add 7 none, Cond.methodLink RX0 15 yX0_placeOf, Cond.static yX0_placeOf, Cond.code yX0_placeOf cX0_placeOf 3 (some .int), Cond.methodLink RX1 47 yX1_goOn, Cond.instanceMethod yX1_goOn, Cond.selects RX1 yX1_goOn yX1_goOn, Cond.code yX1_goOn cX1_goOn 10 none, Cond.methodLink RX1 57 yX0_at, Cond.instanceMethod yX0_at, Cond.selects RX0 yX0_at yX0_at, Cond.code yX0_at cX0_at 5 (some .long), Cond.static yX5_lawStops, Cond.code yX5_lawStops cX5_lawStops 5 (some .boolean)]
def wsX5_says_r4 : List Cond := [Cond.methodLink RX1 69 yX0_add, Cond.static yX5_chanceOfOne, Cond.code yX5_chanceOfOne cX5_chanceOfOne 5 (some .int), Cond.methodLink RX5 211 Lib.Math.min.name, Cond.static Lib.Math.min.name, Cond.initialized "java/lang/Math", Cond.code Lib.Math.min.name Lib.Math.min.code 2 (some .int), Cond.methodLink RX5 216 Lib.Math.max.name, Cond.static Lib.Math.max.name, Cond.code Lib.Math.max.name Lib.Math.max.code 2 (some .int), Cond.methodLink RX1 51 yX4_stepOn, Cond.instanceMethod yX4_stepOn, Cond.selects RX4 yX4_stepOn yX4_stepOn, Cond.code yX4_stepOn cX4_stepOn 2 none, Cond.methodLink RX5 115 yX1_families, Cond.instanceMethod yX1_families, Cond.selects RX1 yX1_families yX1_families, Cond.code yX1_families cX1_families 3 (some .long), Cond.methodLink RX5 103 yX1_sum, Cond.instanceMethod yX1_sum, Cond.selects RX1 yX1_sum yX1_sum, Cond.code yX1_sum cX1_sum 9 (some .long), Cond.methodLink RX1 80 yX1_families, Cond.methodLink RX1 84 yX1_measured]
def wsX5_says_r5 : List Cond := [Cond.static yX1_measured, Cond.code yX1_measured cX1_measured 5 (some .long), Cond.methodLink RX5 109 yX5_fraction, Cond.static yX5_fraction, Cond.code yX5_fraction cX5_fraction 7 (some .long), Cond.methodLink RX5 219 yX5_greatestDivisor, Cond.static yX5_greatestDivisor, Cond.code yX5_greatestDivisor cX5_greatestDivisor 11 (some .long), Cond.methodLink RX5 118 yX1_familiesFrom, Cond.instanceMethod yX1_familiesFrom, Cond.selects RX1 yX1_familiesFrom yX1_familiesFrom, Cond.code yX1_familiesFrom cX1_familiesFrom 4 (some .long)]
def wsX5_says : List Cond := .code yX5_says cX5_says 11 (some .long) :: ((wsX5_says_r1 ++ (wsX5_says_r2 ++ (wsX5_says_r3 ++ (wsX5_says_r4 ++ wsX5_says_r5)))) ++ wsX50 ++ wsX30 ++ wsX10 ++ wsX00 ++ wsX40)
def wsX5_trial_r1 : List Cond := [Cond.fieldLink RX5 45 "TillOneOfSort" "spare" "LTillOneOfSort$Tally;", Cond.fieldLink RX5 10 "TillOneOfSort" "told" "LTillOneOfSort$Told;", Cond.constantLong RX5 107 (61917364224), Cond.methodLink RX5 95 yX5_refuseLong, Cond.instanceMethod yX5_refuseLong, Cond.selects RX5 yX5_refuseLong yX5_refuseLong, Cond.initialized RX5, Cond.code yX5_refuseLong cX5_refuseLong 2 (some .long), Cond.constantLong RX5 176 (4000000000000000000), Cond.methodLink RX5 49 yX5_refuse, Cond.instanceMethod yX5_refuse, Cond.selects RX5 yX5_refuse yX5_refuse, Cond.code yX5_refuse cX5_refuse 3 (some .int), Cond.fieldLink RX5 29 "TillOneOfSort" "refusals" "[I", Cond.methodLink RX5 91 yX5_isNoSort, Cond.static yX5_isNoSort, Cond.code yX5_isNoSort cX5_isNoSort 1 (some .boolean), Cond.methodLink RX5 128 yX1_retell, Cond.instanceMethod yX1_retell, Cond.selects RX1 yX1_retell yX1_retell, Cond.initialized RX1, Cond.code yX1_retell cX1_retell 9 none, Cond.fieldLink RX1 18 "TillOneOfSort$Tally" "kind" "I", Cond.fieldLink RX1 26 "TillOneOfSort$Tally" "figure" "I"]
def wsX5_trial_r2 : List Cond := [Cond.fieldLink RX1 29 "TillOneOfSort$Tally" "most" "I", Cond.fieldLink RX1 32 "TillOneOfSort$Tally" "chance" "I", Cond.fieldLink RX1 35 "TillOneOfSort$Tally" "lean" "I", Cond.fieldLink RX1 12 "TillOneOfSort$Tally" "ends" "LTillOneOfSort$Cells;", Cond.fieldLink RX1 22 "TillOneOfSort$Tally" "walk" "LTillOneOfSort$Walk;", Cond.methodLink RX1 38 yX0_clear, Cond.instanceMethod yX0_clear, Cond.selects RX0 yX0_clear yX0_clear, Cond.initialized RX0, Cond.code yX0_clear cX0_clear 1 none, Cond.fieldLink RX0 11 "TillOneOfSort$Cells" "cells" "[J", Cond.methodLink RX0 19 yJ7_fill_d0a16, Cond.static yJ7_fill_d0a16, Cond.initialized RJ7, Cond.code yJ7_fill_d0a16 cJ7_fill_d0a16 5 none, Cond.methodLink RX1 41 yX4_begin, Cond.instanceMethod yX4_begin, Cond.selects RX4 yX4_begin yX4_begin, Cond.initialized RX4, Cond.code yX4_begin cX4_begin 2 none, Cond.fieldLink RX4 12 "TillOneOfSort$Walk" "here" "LTillOneOfSort$Cells;", Cond.fieldLink RX4 18 "TillOneOfSort$Walk" "next" "LTillOneOfSort$Cells;", Cond.methodLink RX4 21 yX0_clear, Cond.methodLink RX4 24 yX0_add]
def wsX5_trial_r3 : List Cond := [Cond.instanceMethod yX0_add, Cond.selects RX0 yX0_add yX0_add, Cond.code yX0_add cX0_add 7 none, Cond.methodLink RX0 15 yX0_placeOf, Cond.static yX0_placeOf, Cond.code yX0_placeOf cX0_placeOf 3 (some .int), Cond.methodLink RX1 47 yX1_goOn, Cond.instanceMethod yX1_goOn, Cond.selects RX1 yX1_goOn yX1_goOn, Cond.code yX1_goOn cX1_goOn 10 none, Cond.methodLink RX1 57 yX0_at, Cond.instanceMethod yX0_at, Cond.selects RX0 yX0_at yX0_at, Cond.code yX0_at cX0_at 5 (some .long), Cond.static yX5_lawStops, Cond.code yX5_lawStops cX5_lawStops 5 (some .boolean), Cond.methodLink RX1 69 yX0_add, Cond.static yX5_chanceOfOne, Cond.code yX5_chanceOfOne cX5_chanceOfOne 5 (some .int), Cond.methodLink RX5 211 Lib.Math.min.name, Cond.static Lib.Math.min.name, Cond.initialized "java/lang/Math", Cond.code Lib.Math.min.name Lib.Math.min.code 2 (some .int), Cond.methodLink RX5 216 Lib.Math.max.name]
def wsX5_trial_r4 : List Cond := [Cond.static Lib.Math.max.name, Cond.code Lib.Math.max.name Lib.Math.max.code 2 (some .int), Cond.methodLink RX1 51 yX4_stepOn, Cond.instanceMethod yX4_stepOn, Cond.selects RX4 yX4_stepOn yX4_stepOn, Cond.code yX4_stepOn cX4_stepOn 2 none, Cond.methodLink RX5 103 yX1_sum, Cond.instanceMethod yX1_sum, Cond.selects RX1 yX1_sum yX1_sum, Cond.code yX1_sum cX1_sum 9 (some .long), Cond.methodLink RX1 80 yX1_families, Cond.instanceMethod yX1_families, Cond.selects RX1 yX1_families yX1_families, Cond.code yX1_families cX1_families 3 (some .long), Cond.methodLink RX1 84 yX1_measured, Cond.static yX1_measured, Cond.code yX1_measured cX1_measured 5 (some .long), Cond.methodLink RX5 109 yX5_fraction, Cond.static yX5_fraction, Cond.code yX5_fraction cX5_fraction 7 (some .long), Cond.methodLink RX5 219 yX5_greatestDivisor, Cond.static yX5_greatestDivisor, Cond.code yX5_greatestDivisor cX5_greatestDivisor 11 (some .long)]
def wsX5_trial : List Cond := .code yX5_trial cX5_trial 4 (some .long) :: ((wsX5_trial_r1 ++ (wsX5_trial_r2 ++ (wsX5_trial_r3 ++ wsX5_trial_r4))) ++ wsX50 ++ wsX30 ++ wsX10 ++ wsX00 ++ wsX40)
def wsX5_row : List Cond := .code yX5_row cX5_row 2 (some .int) :: ([.fieldLink RX5 132 "TillOneOfSort" "rowLength" "I", .fieldLink RX5 135 "TillOneOfSort" "rowSorts" "I", .methodLink RX5 91 yX5_isNoSort, .static yX5_isNoSort, .initialized RX5, .code yX5_isNoSort cX5_isNoSort 1 (some .boolean), .methodLink RX5 49 yX5_refuse, .instanceMethod yX5_refuse, .selects RX5 yX5_refuse yX5_refuse, .code yX5_refuse cX5_refuse 3 (some .int), .fieldLink RX5 29 "TillOneOfSort" "refusals" "[I"] ++ wsX50)
def wsJ6_bitCount_0f7a4 : List Cond := .code yJ6_bitCount_0f7a4 cJ6_bitCount_0f7a4 1 (some .int) :: ([.constant RJ6 265 (1431655765), .constant RJ6 266 (858993459), .constant RJ6 267 (252645135)])
def wsX5_latestOnes : List Cond := .code yX5_latestOnes cX5_latestOnes 4 (some .int) :: ([])
def wsX5_lastInTwelfths_r1 : List Cond := [Cond.fieldLink RX5 10 "TillOneOfSort" "told" "LTillOneOfSort$Told;", Cond.fieldLink RX5 132 "TillOneOfSort" "rowLength" "I", Cond.fieldLink RX5 135 "TillOneOfSort" "rowSorts" "I", Cond.methodLink RX5 153 yX3_stopPlace, Cond.instanceMethod yX3_stopPlace, Cond.selects RX3 yX3_stopPlace yX3_stopPlace, Cond.initialized RX3, Cond.code yX3_stopPlace cX3_stopPlace 8 (some .int), Cond.fieldLink RX3 18 "TillOneOfSort$Told" "most" "I", Cond.fieldLink RX3 15 "TillOneOfSort$Told" "figure" "I", Cond.static yX5_lawStops, Cond.initialized RX5, Cond.code yX5_lawStops cX5_lawStops 5 (some .boolean), Cond.methodLink RX5 196 yJ6_bitCount_0f7a4, Cond.static yJ6_bitCount_0f7a4, Cond.initialized RJ6, Cond.code yJ6_bitCount_0f7a4 cJ6_bitCount_0f7a4 1 (some .int), Cond.constant RJ6 265 (1431655765), Cond.constant RJ6 266 (858993459), Cond.constant RJ6 267 (252645135), Cond.methodLink RX5 201 yX5_latestOnes, Cond.static yX5_latestOnes, Cond.code yX5_latestOnes cX5_latestOnes 4 (some .int), Cond.methodLink RX5 204 yX5_chanceOfOne]
def wsX5_lastInTwelfths_r2 : List Cond := [Cond.static yX5_chanceOfOne, Cond.code yX5_chanceOfOne cX5_chanceOfOne 5 (some .int), Cond.methodLink RX5 211 Lib.Math.min.name, Cond.static Lib.Math.min.name, Cond.initialized "java/lang/Math", Cond.code Lib.Math.min.name Lib.Math.min.code 2 (some .int), Cond.methodLink RX5 216 Lib.Math.max.name, Cond.static Lib.Math.max.name, Cond.code Lib.Math.max.name Lib.Math.max.code 2 (some .int), Cond.methodLink RX5 87 yX5_lawStops]
def wsX5_lastInTwelfths : List Cond := .code yX5_lastInTwelfths cX5_lastInTwelfths 6 (some .int) :: ((wsX5_lastInTwelfths_r1 ++ wsX5_lastInTwelfths_r2) ++ wsX50 ++ wsX30)
def wsX5_gone_r1 : List Cond := [Cond.constantLong RX5 141 (12), Cond.methodLink RX5 91 yX5_isNoSort, Cond.static yX5_isNoSort, Cond.initialized RX5, Cond.code yX5_isNoSort cX5_isNoSort 1 (some .boolean), Cond.methodLink RX5 95 yX5_refuseLong, Cond.instanceMethod yX5_refuseLong, Cond.selects RX5 yX5_refuseLong yX5_refuseLong, Cond.code yX5_refuseLong cX5_refuseLong 2 (some .long), Cond.constantLong RX5 176 (4000000000000000000), Cond.methodLink RX5 49 yX5_refuse, Cond.instanceMethod yX5_refuse, Cond.selects RX5 yX5_refuse yX5_refuse, Cond.code yX5_refuse cX5_refuse 3 (some .int), Cond.fieldLink RX5 29 "TillOneOfSort" "refusals" "[I", Cond.methodLink RX5 138 yX5_lastInTwelfths, Cond.instanceMethod yX5_lastInTwelfths, Cond.selects RX5 yX5_lastInTwelfths yX5_lastInTwelfths, Cond.code yX5_lastInTwelfths cX5_lastInTwelfths 6 (some .int), Cond.fieldLink RX5 10 "TillOneOfSort" "told" "LTillOneOfSort$Told;", Cond.fieldLink RX5 132 "TillOneOfSort" "rowLength" "I", Cond.fieldLink RX5 135 "TillOneOfSort" "rowSorts" "I", Cond.methodLink RX5 153 yX3_stopPlace, Cond.instanceMethod yX3_stopPlace]
def wsX5_gone_r2 : List Cond := [Cond.selects RX3 yX3_stopPlace yX3_stopPlace, Cond.initialized RX3, Cond.code yX3_stopPlace cX3_stopPlace 8 (some .int), Cond.fieldLink RX3 18 "TillOneOfSort$Told" "most" "I", Cond.fieldLink RX3 15 "TillOneOfSort$Told" "figure" "I", Cond.static yX5_lawStops, Cond.code yX5_lawStops cX5_lawStops 5 (some .boolean), Cond.methodLink RX5 196 yJ6_bitCount_0f7a4, Cond.static yJ6_bitCount_0f7a4, Cond.initialized RJ6, Cond.code yJ6_bitCount_0f7a4 cJ6_bitCount_0f7a4 1 (some .int), Cond.constant RJ6 265 (1431655765), Cond.constant RJ6 266 (858993459), Cond.constant RJ6 267 (252645135), Cond.methodLink RX5 201 yX5_latestOnes, Cond.static yX5_latestOnes, Cond.code yX5_latestOnes cX5_latestOnes 4 (some .int), Cond.methodLink RX5 204 yX5_chanceOfOne, Cond.static yX5_chanceOfOne, Cond.code yX5_chanceOfOne cX5_chanceOfOne 5 (some .int), Cond.methodLink RX5 211 Lib.Math.min.name, Cond.static Lib.Math.min.name, Cond.initialized "java/lang/Math", Cond.code Lib.Math.min.name Lib.Math.min.code 2 (some .int)]
def wsX5_gone_r3 : List Cond := [Cond.methodLink RX5 216 Lib.Math.max.name, Cond.static Lib.Math.max.name, Cond.code Lib.Math.max.name Lib.Math.max.code 2 (some .int), Cond.methodLink RX5 87 yX5_lawStops, Cond.methodLink RX5 109 yX5_fraction, Cond.static yX5_fraction, Cond.code yX5_fraction cX5_fraction 7 (some .long), Cond.methodLink RX5 219 yX5_greatestDivisor, Cond.static yX5_greatestDivisor, Cond.code yX5_greatestDivisor cX5_greatestDivisor 11 (some .long)]
def wsX5_gone : List Cond := .code yX5_gone cX5_gone 2 (some .long) :: ((wsX5_gone_r1 ++ (wsX5_gone_r2 ++ wsX5_gone_r3)) ++ wsX50 ++ wsX30)
def wsX5_compareFractions : List Cond := .code yX5_compareFractions cX5_compareFractions 21 (some .int) :: ([])
def wsX5_compareAll_r1 : List Cond := [Cond.methodLink RX5 185 yX5_tallyOf, Cond.instanceMethod yX5_tallyOf, Cond.selects RX5 yX5_tallyOf yX5_tallyOf, Cond.initialized RX5, Cond.code yX5_tallyOf cX5_tallyOf 3 (some (.object "TillOneOfSort$Tally")), Cond.fieldLink RX5 35 "TillOneOfSort" "tallies" "[LTillOneOfSort$Tally;", Cond.fieldLink RX5 45 "TillOneOfSort" "spare" "LTillOneOfSort$Tally;", Cond.fieldLink RX5 10 "TillOneOfSort" "told" "LTillOneOfSort$Told;", Cond.methodLink RX5 128 yX1_retell, Cond.instanceMethod yX1_retell, Cond.selects RX1 yX1_retell yX1_retell, Cond.initialized RX1, Cond.code yX1_retell cX1_retell 9 none, Cond.fieldLink RX1 18 "TillOneOfSort$Tally" "kind" "I", Cond.fieldLink RX1 26 "TillOneOfSort$Tally" "figure" "I", Cond.fieldLink RX1 29 "TillOneOfSort$Tally" "most" "I", Cond.fieldLink RX1 32 "TillOneOfSort$Tally" "chance" "I", Cond.fieldLink RX1 35 "TillOneOfSort$Tally" "lean" "I", Cond.fieldLink RX1 12 "TillOneOfSort$Tally" "ends" "LTillOneOfSort$Cells;", Cond.fieldLink RX1 22 "TillOneOfSort$Tally" "walk" "LTillOneOfSort$Walk;", Cond.methodLink RX1 38 yX0_clear, Cond.instanceMethod yX0_clear, Cond.selects RX0 yX0_clear yX0_clear, Cond.initialized RX0]
def wsX5_compareAll_r2 : List Cond := [Cond.code yX0_clear cX0_clear 1 none, Cond.fieldLink RX0 11 "TillOneOfSort$Cells" "cells" "[J", Cond.methodLink RX0 19 yJ7_fill_d0a16, Cond.static yJ7_fill_d0a16, Cond.initialized RJ7, Cond.code yJ7_fill_d0a16 cJ7_fill_d0a16 5 none, Cond.methodLink RX1 41 yX4_begin, Cond.instanceMethod yX4_begin, Cond.selects RX4 yX4_begin yX4_begin, Cond.initialized RX4, Cond.code yX4_begin cX4_begin 2 none, Cond.fieldLink RX4 12 "TillOneOfSort$Walk" "here" "LTillOneOfSort$Cells;", Cond.fieldLink RX4 18 "TillOneOfSort$Walk" "next" "LTillOneOfSort$Cells;", Cond.methodLink RX4 21 yX0_clear, Cond.methodLink RX4 24 yX0_add, Cond.instanceMethod yX0_add, Cond.selects RX0 yX0_add yX0_add, Cond.code yX0_add cX0_add 7 none, Cond.methodLink RX0 15 yX0_placeOf, Cond.static yX0_placeOf, Cond.code yX0_placeOf cX0_placeOf 3 (some .int), Cond.methodLink RX1 47 yX1_goOn, Cond.instanceMethod yX1_goOn, Cond.selects RX1 yX1_goOn yX1_goOn]
def wsX5_compareAll_r3 : List Cond := [Cond.code yX1_goOn cX1_goOn 10 none, Cond.methodLink RX1 57 yX0_at, Cond.instanceMethod yX0_at, Cond.selects RX0 yX0_at yX0_at, Cond.code yX0_at cX0_at 5 (some .long), Cond.static yX5_lawStops, Cond.code yX5_lawStops cX5_lawStops 5 (some .boolean), Cond.methodLink RX1 69 yX0_add, Cond.static yX5_chanceOfOne, Cond.code yX5_chanceOfOne cX5_chanceOfOne 5 (some .int), Cond.methodLink RX5 211 Lib.Math.min.name, Cond.static Lib.Math.min.name, Cond.initialized "java/lang/Math", Cond.code Lib.Math.min.name Lib.Math.min.code 2 (some .int), Cond.methodLink RX5 216 Lib.Math.max.name, Cond.static Lib.Math.max.name, Cond.code Lib.Math.max.name Lib.Math.max.code 2 (some .int), Cond.methodLink RX1 51 yX4_stepOn, Cond.instanceMethod yX4_stepOn, Cond.selects RX4 yX4_stepOn yX4_stepOn, Cond.code yX4_stepOn cX4_stepOn 2 none, Cond.methodLink RX5 103 yX1_sum, Cond.instanceMethod yX1_sum, Cond.selects RX1 yX1_sum yX1_sum]
def wsX5_compareAll_r4 : List Cond := [Cond.code yX1_sum cX1_sum 9 (some .long), Cond.methodLink RX1 80 yX1_families, Cond.instanceMethod yX1_families, Cond.selects RX1 yX1_families yX1_families, Cond.code yX1_families cX1_families 3 (some .long), Cond.methodLink RX1 84 yX1_measured, Cond.static yX1_measured, Cond.code yX1_measured cX1_measured 5 (some .long), Cond.methodLink RX5 192 yX5_compareFractions, Cond.static yX5_compareFractions, Cond.code yX5_compareFractions cX5_compareFractions 21 (some .int)]
def wsX5_compareAll : List Cond := .code yX5_compareAll cX5_compareAll 5 (some .int) :: ((wsX5_compareAll_r1 ++ (wsX5_compareAll_r2 ++ (wsX5_compareAll_r3 ++ wsX5_compareAll_r4))) ++ wsX50 ++ wsX30 ++ wsX10 ++ wsX00 ++ wsX40)
def wsX5_shift_r1 : List Cond := [Cond.methodLink RX5 49 yX5_refuse, Cond.instanceMethod yX5_refuse, Cond.selects RX5 yX5_refuse yX5_refuse, Cond.initialized RX5, Cond.code yX5_refuse cX5_refuse 3 (some .int), Cond.fieldLink RX5 29 "TillOneOfSort" "refusals" "[I", Cond.methodLink RX5 143 yX5_compareAll, Cond.instanceMethod yX5_compareAll, Cond.selects RX5 yX5_compareAll yX5_compareAll, Cond.code yX5_compareAll cX5_compareAll 5 (some .int), Cond.methodLink RX5 185 yX5_tallyOf, Cond.instanceMethod yX5_tallyOf, Cond.selects RX5 yX5_tallyOf yX5_tallyOf, Cond.code yX5_tallyOf cX5_tallyOf 3 (some (.object "TillOneOfSort$Tally")), Cond.fieldLink RX5 35 "TillOneOfSort" "tallies" "[LTillOneOfSort$Tally;", Cond.fieldLink RX5 45 "TillOneOfSort" "spare" "LTillOneOfSort$Tally;", Cond.fieldLink RX5 10 "TillOneOfSort" "told" "LTillOneOfSort$Told;", Cond.methodLink RX5 128 yX1_retell, Cond.instanceMethod yX1_retell, Cond.selects RX1 yX1_retell yX1_retell, Cond.initialized RX1, Cond.code yX1_retell cX1_retell 9 none, Cond.fieldLink RX1 18 "TillOneOfSort$Tally" "kind" "I", Cond.fieldLink RX1 26 "TillOneOfSort$Tally" "figure" "I"]
def wsX5_shift_r2 : List Cond := [Cond.fieldLink RX1 29 "TillOneOfSort$Tally" "most" "I", Cond.fieldLink RX1 32 "TillOneOfSort$Tally" "chance" "I", Cond.fieldLink RX1 35 "TillOneOfSort$Tally" "lean" "I", Cond.fieldLink RX1 12 "TillOneOfSort$Tally" "ends" "LTillOneOfSort$Cells;", Cond.fieldLink RX1 22 "TillOneOfSort$Tally" "walk" "LTillOneOfSort$Walk;", Cond.methodLink RX1 38 yX0_clear, Cond.instanceMethod yX0_clear, Cond.selects RX0 yX0_clear yX0_clear, Cond.initialized RX0, Cond.code yX0_clear cX0_clear 1 none, Cond.fieldLink RX0 11 "TillOneOfSort$Cells" "cells" "[J", Cond.methodLink RX0 19 yJ7_fill_d0a16, Cond.static yJ7_fill_d0a16, Cond.initialized RJ7, Cond.code yJ7_fill_d0a16 cJ7_fill_d0a16 5 none, Cond.methodLink RX1 41 yX4_begin, Cond.instanceMethod yX4_begin, Cond.selects RX4 yX4_begin yX4_begin, Cond.initialized RX4, Cond.code yX4_begin cX4_begin 2 none, Cond.fieldLink RX4 12 "TillOneOfSort$Walk" "here" "LTillOneOfSort$Cells;", Cond.fieldLink RX4 18 "TillOneOfSort$Walk" "next" "LTillOneOfSort$Cells;", Cond.methodLink RX4 21 yX0_clear, Cond.methodLink RX4 24 yX0_add]
def wsX5_shift_r3 : List Cond := [Cond.instanceMethod yX0_add, Cond.selects RX0 yX0_add yX0_add, Cond.code yX0_add cX0_add 7 none, Cond.methodLink RX0 15 yX0_placeOf, Cond.static yX0_placeOf, Cond.code yX0_placeOf cX0_placeOf 3 (some .int), Cond.methodLink RX1 47 yX1_goOn, Cond.instanceMethod yX1_goOn, Cond.selects RX1 yX1_goOn yX1_goOn, Cond.code yX1_goOn cX1_goOn 10 none, Cond.methodLink RX1 57 yX0_at, Cond.instanceMethod yX0_at, Cond.selects RX0 yX0_at yX0_at, Cond.code yX0_at cX0_at 5 (some .long), Cond.static yX5_lawStops, Cond.code yX5_lawStops cX5_lawStops 5 (some .boolean), Cond.methodLink RX1 69 yX0_add, Cond.static yX5_chanceOfOne, Cond.code yX5_chanceOfOne cX5_chanceOfOne 5 (some .int), Cond.methodLink RX5 211 Lib.Math.min.name, Cond.static Lib.Math.min.name, Cond.initialized "java/lang/Math", Cond.code Lib.Math.min.name Lib.Math.min.code 2 (some .int), Cond.methodLink RX5 216 Lib.Math.max.name]
def wsX5_shift_r4 : List Cond := [Cond.static Lib.Math.max.name, Cond.code Lib.Math.max.name Lib.Math.max.code 2 (some .int), Cond.methodLink RX1 51 yX4_stepOn, Cond.instanceMethod yX4_stepOn, Cond.selects RX4 yX4_stepOn yX4_stepOn, Cond.code yX4_stepOn cX4_stepOn 2 none, Cond.methodLink RX5 103 yX1_sum, Cond.instanceMethod yX1_sum, Cond.selects RX1 yX1_sum yX1_sum, Cond.code yX1_sum cX1_sum 9 (some .long), Cond.methodLink RX1 80 yX1_families, Cond.instanceMethod yX1_families, Cond.selects RX1 yX1_families yX1_families, Cond.code yX1_families cX1_families 3 (some .long), Cond.methodLink RX1 84 yX1_measured, Cond.static yX1_measured, Cond.code yX1_measured cX1_measured 5 (some .long), Cond.methodLink RX5 192 yX5_compareFractions, Cond.static yX5_compareFractions, Cond.code yX5_compareFractions cX5_compareFractions 21 (some .int)]
def wsX5_shift : List Cond := .code yX5_shift cX5_shift 5 (some .int) :: ((wsX5_shift_r1 ++ (wsX5_shift_r2 ++ (wsX5_shift_r3 ++ wsX5_shift_r4))) ++ wsX50 ++ wsX30 ++ wsX10 ++ wsX00 ++ wsX40)
def wsX5_fits_r1 : List Cond := [Cond.fieldLink RX5 10 "TillOneOfSort" "told" "LTillOneOfSort$Told;", Cond.methodLink RX5 49 yX5_refuse, Cond.instanceMethod yX5_refuse, Cond.selects RX5 yX5_refuse yX5_refuse, Cond.initialized RX5, Cond.code yX5_refuse cX5_refuse 3 (some .int), Cond.fieldLink RX5 29 "TillOneOfSort" "refusals" "[I", Cond.methodLink RX5 147 yX3_endsAllSeen, Cond.instanceMethod yX3_endsAllSeen, Cond.selects RX3 yX3_endsAllSeen yX3_endsAllSeen, Cond.initialized RX3, Cond.code yX3_endsAllSeen cX3_endsAllSeen 3 (some .boolean), Cond.fieldLink RX3 34 "TillOneOfSort$Told" "families" "I", Cond.methodLink RX3 37 yX3_lengthOf, Cond.instanceMethod yX3_lengthOf, Cond.selects RX3 yX3_lengthOf yX3_lengthOf, Cond.code yX3_lengthOf cX3_lengthOf 2 (some .int), Cond.fieldLink RX3 24 "TillOneOfSort$Told" "lengths" "[I", Cond.methodLink RX3 41 yX3_sortsOf, Cond.instanceMethod yX3_sortsOf, Cond.selects RX3 yX3_sortsOf yX3_sortsOf, Cond.code yX3_sortsOf cX3_sortsOf 2 (some .int), Cond.fieldLink RX3 28 "TillOneOfSort$Told" "sorts" "[I", Cond.methodLink RX3 77 yX3_stopPlace]
def wsX5_fits_r2 : List Cond := [Cond.instanceMethod yX3_stopPlace, Cond.selects RX3 yX3_stopPlace yX3_stopPlace, Cond.code yX3_stopPlace cX3_stopPlace 8 (some .int), Cond.fieldLink RX3 18 "TillOneOfSort$Told" "most" "I", Cond.fieldLink RX3 15 "TillOneOfSort$Told" "figure" "I", Cond.static yX5_lawStops, Cond.code yX5_lawStops cX5_lawStops 5 (some .boolean), Cond.methodLink RX5 150 yX3_countStoppedAhead, Cond.instanceMethod yX3_countStoppedAhead, Cond.selects RX3 yX3_countStoppedAhead yX3_countStoppedAhead, Cond.code yX3_countStoppedAhead cX3_countStoppedAhead 4 (some .int)]
def wsX5_fits : List Cond := .code yX5_fits cX5_fits 5 (some .int) :: ((wsX5_fits_r1 ++ wsX5_fits_r2) ++ wsX50 ++ wsX30)
def wsX5_judge : List Cond := .code yX5_judge cX5_judge 3 (some .int) :: ([.fieldLink RX5 10 "TillOneOfSort" "told" "LTillOneOfSort$Told;", .fieldLink RX5 132 "TillOneOfSort" "rowLength" "I", .fieldLink RX5 135 "TillOneOfSort" "rowSorts" "I", .methodLink RX5 153 yX3_stopPlace, .instanceMethod yX3_stopPlace, .selects RX3 yX3_stopPlace yX3_stopPlace, .initialized RX3, .code yX3_stopPlace cX3_stopPlace 8 (some .int), .fieldLink RX3 18 "TillOneOfSort$Told" "most" "I", .fieldLink RX3 15 "TillOneOfSort$Told" "figure" "I", .static yX5_lawStops, .initialized RX5, .code yX5_lawStops cX5_lawStops 5 (some .boolean)] ++ wsX50 ++ wsX30)
def wsX5_seen : List Cond := .code yX5_seen cX5_seen 3 (some .int) :: ([.fieldLink RX5 10 "TillOneOfSort" "told" "LTillOneOfSort$Told;", .methodLink RX5 49 yX5_refuse, .instanceMethod yX5_refuse, .selects RX5 yX5_refuse yX5_refuse, .initialized RX5, .code yX5_refuse cX5_refuse 3 (some .int), .fieldLink RX5 29 "TillOneOfSort" "refusals" "[I", .methodLink RX5 159 yX3_lengthOf, .instanceMethod yX3_lengthOf, .selects RX3 yX3_lengthOf yX3_lengthOf, .initialized RX3, .code yX3_lengthOf cX3_lengthOf 2 (some .int), .fieldLink RX3 24 "TillOneOfSort$Told" "lengths" "[I", .methodLink RX5 162 yX3_sortsOf, .instanceMethod yX3_sortsOf, .selects RX3 yX3_sortsOf yX3_sortsOf, .code yX3_sortsOf cX3_sortsOf 2 (some .int), .fieldLink RX3 28 "TillOneOfSort$Told" "sorts" "[I"] ++ wsX50 ++ wsX30)
def wsX5_cheats_r1 : List Cond := [Cond.fieldLink RX5 10 "TillOneOfSort" "told" "LTillOneOfSort$Told;", Cond.methodLink RX5 150 yX3_countStoppedAhead, Cond.instanceMethod yX3_countStoppedAhead, Cond.selects RX3 yX3_countStoppedAhead yX3_countStoppedAhead, Cond.initialized RX3, Cond.code yX3_countStoppedAhead cX3_countStoppedAhead 4 (some .int), Cond.fieldLink RX3 34 "TillOneOfSort$Told" "families" "I", Cond.methodLink RX3 37 yX3_lengthOf, Cond.instanceMethod yX3_lengthOf, Cond.selects RX3 yX3_lengthOf yX3_lengthOf, Cond.code yX3_lengthOf cX3_lengthOf 2 (some .int), Cond.fieldLink RX3 24 "TillOneOfSort$Told" "lengths" "[I", Cond.methodLink RX3 41 yX3_sortsOf, Cond.instanceMethod yX3_sortsOf, Cond.selects RX3 yX3_sortsOf yX3_sortsOf, Cond.code yX3_sortsOf cX3_sortsOf 2 (some .int), Cond.fieldLink RX3 28 "TillOneOfSort$Told" "sorts" "[I", Cond.methodLink RX3 77 yX3_stopPlace, Cond.instanceMethod yX3_stopPlace, Cond.selects RX3 yX3_stopPlace yX3_stopPlace, Cond.code yX3_stopPlace cX3_stopPlace 8 (some .int), Cond.fieldLink RX3 18 "TillOneOfSort$Told" "most" "I", Cond.fieldLink RX3 15 "TillOneOfSort$Told" "figure" "I", Cond.static yX5_lawStops]
def wsX5_cheats_r2 : List Cond := [Cond.initialized RX5, Cond.code yX5_lawStops cX5_lawStops 5 (some .boolean)]
def wsX5_cheats : List Cond := .code yX5_cheats cX5_cheats 1 (some .int) :: ((wsX5_cheats_r1 ++ wsX5_cheats_r2) ++ wsX50 ++ wsX30)
def wsX5_countLots : List Cond := .code yX5_countLots cX5_countLots 13 (some .int) :: ([.fieldLink RX5 10 "TillOneOfSort" "told" "LTillOneOfSort$Told;", .constant RX5 208 (1664525), .constant RX5 209 (1013904223), .constant RX5 210 (2147483647), .methodLink RX5 204 yX5_chanceOfOne, .static yX5_chanceOfOne, .initialized RX5, .code yX5_chanceOfOne cX5_chanceOfOne 5 (some .int), .methodLink RX5 211 Lib.Math.min.name, .static Lib.Math.min.name, .initialized "java/lang/Math", .code Lib.Math.min.name Lib.Math.min.code 2 (some .int), .methodLink RX5 216 Lib.Math.max.name, .static Lib.Math.max.name, .code Lib.Math.max.name Lib.Math.max.code 2 (some .int), .methodLink RX5 87 yX5_lawStops, .static yX5_lawStops, .code yX5_lawStops cX5_lawStops 5 (some .boolean)] ++ wsX50 ++ wsX30)
def wsX5_lots_r1 : List Cond := [Cond.methodLink RX5 49 yX5_refuse, Cond.instanceMethod yX5_refuse, Cond.selects RX5 yX5_refuse yX5_refuse, Cond.initialized RX5, Cond.code yX5_refuse cX5_refuse 3 (some .int), Cond.fieldLink RX5 29 "TillOneOfSort" "refusals" "[I", Cond.methodLink RX5 91 yX5_isNoSort, Cond.static yX5_isNoSort, Cond.code yX5_isNoSort cX5_isNoSort 1 (some .boolean), Cond.methodLink RX5 165 yX5_countLots, Cond.instanceMethod yX5_countLots, Cond.selects RX5 yX5_countLots yX5_countLots, Cond.code yX5_countLots cX5_countLots 13 (some .int), Cond.fieldLink RX5 10 "TillOneOfSort" "told" "LTillOneOfSort$Told;", Cond.constant RX5 208 (1664525), Cond.constant RX5 209 (1013904223), Cond.constant RX5 210 (2147483647), Cond.methodLink RX5 204 yX5_chanceOfOne, Cond.static yX5_chanceOfOne, Cond.code yX5_chanceOfOne cX5_chanceOfOne 5 (some .int), Cond.methodLink RX5 211 Lib.Math.min.name, Cond.static Lib.Math.min.name, Cond.initialized "java/lang/Math", Cond.code Lib.Math.min.name Lib.Math.min.code 2 (some .int)]
def wsX5_lots_r2 : List Cond := [Cond.methodLink RX5 216 Lib.Math.max.name, Cond.static Lib.Math.max.name, Cond.code Lib.Math.max.name Lib.Math.max.code 2 (some .int), Cond.methodLink RX5 87 yX5_lawStops, Cond.static yX5_lawStops, Cond.code yX5_lawStops cX5_lawStops 5 (some .boolean)]
def wsX5_lots : List Cond := .code yX5_lots cX5_lots 4 (some .int) :: ((wsX5_lots_r1 ++ wsX5_lots_r2) ++ wsX50 ++ wsX30)
def wsX5_image : List Cond := .code yX5_image cX5_image 1 (some .int) :: ([.fieldLink RX5 19 "TillOneOfSort" "kept" "LTillOneOfSort$Told;", .fieldLink RX5 10 "TillOneOfSort" "told" "LTillOneOfSort$Told;", .fieldLink RX5 172 "TillOneOfSort" "isKept" "Z", .methodLink RX5 168 yX3_copy, .instanceMethod yX3_copy, .selects RX3 yX3_copy yX3_copy, .initialized RX3, .code yX3_copy cX3_copy 3 none, .fieldLink RX3 9 "TillOneOfSort$Told" "kind" "I", .fieldLink RX3 15 "TillOneOfSort$Told" "figure" "I", .fieldLink RX3 18 "TillOneOfSort$Told" "most" "I", .fieldLink RX3 21 "TillOneOfSort$Told" "chance" "I", .fieldLink RX3 31 "TillOneOfSort$Told" "lean" "I", .fieldLink RX3 34 "TillOneOfSort$Told" "families" "I", .fieldLink RX3 24 "TillOneOfSort$Told" "lengths" "[I", .fieldLink RX3 28 "TillOneOfSort$Told" "sorts" "[I", .methodLink RX3 37 yX3_lengthOf, .instanceMethod yX3_lengthOf, .selects RX3 yX3_lengthOf yX3_lengthOf, .code yX3_lengthOf cX3_lengthOf 2 (some .int), .methodLink RX3 41 yX3_sortsOf, .instanceMethod yX3_sortsOf, .selects RX3 yX3_sortsOf yX3_sortsOf, .code yX3_sortsOf cX3_sortsOf 2 (some .int)] ++ wsX50 ++ wsX30)
def wsX5_on_r1 : List Cond := [Cond.fieldLink RX5 172 "TillOneOfSort" "isKept" "Z", Cond.fieldLink RX5 10 "TillOneOfSort" "told" "LTillOneOfSort$Told;", Cond.fieldLink RX5 19 "TillOneOfSort" "kept" "LTillOneOfSort$Told;", Cond.methodLink RX5 49 yX5_refuse, Cond.instanceMethod yX5_refuse, Cond.selects RX5 yX5_refuse yX5_refuse, Cond.initialized RX5, Cond.code yX5_refuse cX5_refuse 3 (some .int), Cond.fieldLink RX5 29 "TillOneOfSort" "refusals" "[I", Cond.methodLink RX5 168 yX3_copy, Cond.instanceMethod yX3_copy, Cond.selects RX3 yX3_copy yX3_copy, Cond.initialized RX3, Cond.code yX3_copy cX3_copy 3 none, Cond.fieldLink RX3 9 "TillOneOfSort$Told" "kind" "I", Cond.fieldLink RX3 15 "TillOneOfSort$Told" "figure" "I", Cond.fieldLink RX3 18 "TillOneOfSort$Told" "most" "I", Cond.fieldLink RX3 21 "TillOneOfSort$Told" "chance" "I", Cond.fieldLink RX3 31 "TillOneOfSort$Told" "lean" "I", Cond.fieldLink RX3 34 "TillOneOfSort$Told" "families" "I", Cond.fieldLink RX3 24 "TillOneOfSort$Told" "lengths" "[I", Cond.fieldLink RX3 28 "TillOneOfSort$Told" "sorts" "[I", Cond.methodLink RX3 37 yX3_lengthOf, Cond.instanceMethod yX3_lengthOf]
def wsX5_on_r2 : List Cond := [Cond.selects RX3 yX3_lengthOf yX3_lengthOf, Cond.code yX3_lengthOf cX3_lengthOf 2 (some .int), Cond.methodLink RX3 41 yX3_sortsOf, Cond.instanceMethod yX3_sortsOf, Cond.selects RX3 yX3_sortsOf yX3_sortsOf, Cond.code yX3_sortsOf cX3_sortsOf 2 (some .int)]
def wsX5_on : List Cond := .code yX5_on cX5_on 1 (some .int) :: ((wsX5_on_r1 ++ wsX5_on_r2) ++ wsX50 ++ wsX30)
def wsX5_count : List Cond := .code yX5_count cX5_count 2 (some .int) :: ([.fieldLink RX5 10 "TillOneOfSort" "told" "LTillOneOfSort$Told;", .fieldLink RX5 132 "TillOneOfSort" "rowLength" "I", .fieldLink RX5 25 "TillOneOfSort" "text" "LTillOneOfSort$Text;", .fieldLink RX5 29 "TillOneOfSort" "refusals" "[I", .methodLink RX5 80 yX3_number, .instanceMethod yX3_number, .selects RX3 yX3_number yX3_number, .initialized RX3, .code yX3_number cX3_number 2 (some .int), .fieldLink RX3 31 "TillOneOfSort$Told" "lean" "I", .fieldLink RX3 21 "TillOneOfSort$Told" "chance" "I", .fieldLink RX3 18 "TillOneOfSort$Told" "most" "I"] ++ wsX50 ++ wsX30 ++ wsX20)
def wsX6_init : List Cond := .code yX6_init cX6_init 1 none :: ([.methodLink RX6 1 objectInit, .instanceMethod objectInit, .code objectInit ⟨#[0xb1]⟩ 1 none, .arrayClass .int, .fieldLink RX6 7 "TillOneOfSortModel" "refusals" "[I", .fieldLink RX6 13 "TillOneOfSortModel" "s" "[I", .fieldLink RX6 16 "TillOneOfSortModel" "image" "[I", .fieldLink RX6 19 "TillOneOfSortModel" "read" "[I", .fieldLink RX6 22 "TillOneOfSortModel" "tape" "[I", .fieldLink RX6 25 "TillOneOfSortModel" "told" "[I", .arrayClass .long, .fieldLink RX6 28 "TillOneOfSortModel" "sized" "[J"] ++ wsX60)
def wsX6_refuse : List Cond := .code yX6_refuse cX6_refuse 2 (some .int) :: ([.fieldLink RX6 7 "TillOneOfSortModel" "refusals" "[I"] ++ wsX60)
def wsX6_refuseWide : List Cond := .code yX6_refuseWide cX6_refuseWide 2 (some .long) :: ([.constantLong RX6 32 (4000000000000000000), .methodLink RX6 34 yX6_refuse, .instanceMethod yX6_refuse, .selects RX6 yX6_refuse yX6_refuse, .initialized RX6, .code yX6_refuse cX6_refuse 2 (some .int), .fieldLink RX6 7 "TillOneOfSortModel" "refusals" "[I"] ++ wsX60)
def wsX6_isIn : List Cond := .code yX6_isIn cX6_isIn 2 (some .boolean) :: ([])
def wsX6_within : List Cond := .code yX6_within cX6_within 3 (some .int) :: ([])
def wsX6_lays : List Cond := .code yX6_lays cX6_lays 3 none :: ([])
def wsX6_letter : List Cond := .code yX6_letter cX6_letter 3 (some .int) :: ([.fieldLink RX6 42 "TillOneOfSortModel" "taped" "I", .fieldLink RX6 22 "TillOneOfSortModel" "tape" "[I", .methodLink RX6 38 yX6_within, .static yX6_within, .initialized RX6, .code yX6_within cX6_within 3 (some .int), .methodLink RX6 34 yX6_refuse, .instanceMethod yX6_refuse, .selects RX6 yX6_refuse yX6_refuse, .code yX6_refuse cX6_refuse 2 (some .int), .fieldLink RX6 7 "TillOneOfSortModel" "refusals" "[I"] ++ wsX60)
def wsX6_sign : List Cond := .code yX6_sign cX6_sign 1 (some .int) :: ([.fieldLink RX6 46 "TillOneOfSortModel" "at" "I", .fieldLink RX6 42 "TillOneOfSortModel" "taped" "I", .fieldLink RX6 22 "TillOneOfSortModel" "tape" "[I"] ++ wsX60)
def wsX6_takes : List Cond := .code yX6_takes cX6_takes 2 (some .boolean) :: ([.fieldLink RX6 46 "TillOneOfSortModel" "at" "I", .methodLink RX6 49 yX6_sign, .instanceMethod yX6_sign, .selects RX6 yX6_sign yX6_sign, .initialized RX6, .code yX6_sign cX6_sign 1 (some .int), .fieldLink RX6 42 "TillOneOfSortModel" "taped" "I", .fieldLink RX6 22 "TillOneOfSortModel" "tape" "[I"] ++ wsX60)
def wsX6_readsNumber : List Cond := .code yX6_readsNumber cX6_readsNumber 4 (some .boolean) :: ([.fieldLink RX6 25 "TillOneOfSortModel" "told" "[I", .fieldLink RX6 46 "TillOneOfSortModel" "at" "I", .methodLink RX6 49 yX6_sign, .instanceMethod yX6_sign, .selects RX6 yX6_sign yX6_sign, .initialized RX6, .code yX6_sign cX6_sign 1 (some .int), .fieldLink RX6 42 "TillOneOfSortModel" "taped" "I", .fieldLink RX6 22 "TillOneOfSortModel" "tape" "[I", .methodLink RX6 53 yX6_isIn, .static yX6_isIn, .code yX6_isIn cX6_isIn 2 (some .boolean)] ++ wsX60)
def wsX6_kindOf : List Cond := .code yX6_kindOf cX6_kindOf 1 (some .int) :: ([])
def wsX6_readsKind : List Cond := .code yX6_readsKind cX6_readsKind 1 (some .boolean) :: ([.fieldLink RX6 25 "TillOneOfSortModel" "told" "[I", .fieldLink RX6 46 "TillOneOfSortModel" "at" "I", .methodLink RX6 49 yX6_sign, .instanceMethod yX6_sign, .selects RX6 yX6_sign yX6_sign, .initialized RX6, .code yX6_sign cX6_sign 1 (some .int), .fieldLink RX6 42 "TillOneOfSortModel" "taped" "I", .fieldLink RX6 22 "TillOneOfSortModel" "tape" "[I", .methodLink RX6 57 yX6_kindOf, .static yX6_kindOf, .code yX6_kindOf cX6_kindOf 1 (some .int), .methodLink RX6 60 yX6_readsNumber, .instanceMethod yX6_readsNumber, .selects RX6 yX6_readsNumber yX6_readsNumber, .code yX6_readsNumber cX6_readsNumber 4 (some .boolean), .methodLink RX6 53 yX6_isIn, .static yX6_isIn, .code yX6_isIn cX6_isIn 2 (some .boolean)] ++ wsX60)
def wsX6_readsLean : List Cond := .code yX6_readsLean cX6_readsLean 2 (some .boolean) :: ([.fieldLink RX6 46 "TillOneOfSortModel" "at" "I", .fieldLink RX6 25 "TillOneOfSortModel" "told" "[I", .methodLink RX6 49 yX6_sign, .instanceMethod yX6_sign, .selects RX6 yX6_sign yX6_sign, .initialized RX6, .code yX6_sign cX6_sign 1 (some .int), .fieldLink RX6 42 "TillOneOfSortModel" "taped" "I", .fieldLink RX6 22 "TillOneOfSortModel" "tape" "[I", .methodLink RX6 60 yX6_readsNumber, .instanceMethod yX6_readsNumber, .selects RX6 yX6_readsNumber yX6_readsNumber, .code yX6_readsNumber cX6_readsNumber 4 (some .boolean), .methodLink RX6 53 yX6_isIn, .static yX6_isIn, .code yX6_isIn cX6_isIn 2 (some .boolean)] ++ wsX60)
def wsX6_readsFamily : List Cond := .code yX6_readsFamily cX6_readsFamily 1 (some .boolean) :: ([.fieldLink RX6 25 "TillOneOfSortModel" "told" "[I", .fieldLink RX6 46 "TillOneOfSortModel" "at" "I", .methodLink RX6 49 yX6_sign, .instanceMethod yX6_sign, .selects RX6 yX6_sign yX6_sign, .initialized RX6, .code yX6_sign cX6_sign 1 (some .int), .fieldLink RX6 42 "TillOneOfSortModel" "taped" "I", .fieldLink RX6 22 "TillOneOfSortModel" "tape" "[I"] ++ wsX60)
def wsX6_readsStatement_r1 : List Cond := [Cond.fieldLink RX6 46 "TillOneOfSortModel" "at" "I", Cond.methodLink RX6 49 yX6_sign, Cond.instanceMethod yX6_sign, Cond.selects RX6 yX6_sign yX6_sign, Cond.initialized RX6, Cond.code yX6_sign cX6_sign 1 (some .int), Cond.fieldLink RX6 42 "TillOneOfSortModel" "taped" "I", Cond.fieldLink RX6 22 "TillOneOfSortModel" "tape" "[I", Cond.methodLink RX6 63 yX6_readsKind, Cond.instanceMethod yX6_readsKind, Cond.selects RX6 yX6_readsKind yX6_readsKind, Cond.code yX6_readsKind cX6_readsKind 1 (some .boolean), Cond.fieldLink RX6 25 "TillOneOfSortModel" "told" "[I", Cond.methodLink RX6 57 yX6_kindOf, Cond.static yX6_kindOf, Cond.code yX6_kindOf cX6_kindOf 1 (some .int), Cond.methodLink RX6 60 yX6_readsNumber, Cond.instanceMethod yX6_readsNumber, Cond.selects RX6 yX6_readsNumber yX6_readsNumber, Cond.code yX6_readsNumber cX6_readsNumber 4 (some .boolean), Cond.methodLink RX6 53 yX6_isIn, Cond.static yX6_isIn, Cond.code yX6_isIn cX6_isIn 2 (some .boolean), Cond.methodLink RX6 67 yX6_readsLean]
def wsX6_readsStatement_r2 : List Cond := [Cond.instanceMethod yX6_readsLean, Cond.selects RX6 yX6_readsLean yX6_readsLean, Cond.code yX6_readsLean cX6_readsLean 2 (some .boolean), Cond.methodLink RX6 70 yX6_readsFamily, Cond.instanceMethod yX6_readsFamily, Cond.selects RX6 yX6_readsFamily yX6_readsFamily, Cond.code yX6_readsFamily cX6_readsFamily 1 (some .boolean), Cond.methodLink RX6 73 yX6_takes, Cond.instanceMethod yX6_takes, Cond.selects RX6 yX6_takes yX6_takes, Cond.code yX6_takes cX6_takes 2 (some .boolean)]
def wsX6_readsStatement : List Cond := .code yX6_readsStatement cX6_readsStatement 3 (some .boolean) :: ((wsX6_readsStatement_r1 ++ wsX6_readsStatement_r2) ++ wsX60)
def wsX6_comes : List Cond := .code yX6_comes cX6_comes 3 (some .boolean) :: ([.fieldLink RX6 25 "TillOneOfSortModel" "told" "[I", .fieldLink RX6 19 "TillOneOfSortModel" "read" "[I"] ++ wsX60)
def wsX6_reads_r1 : List Cond := [Cond.fieldLink RX6 46 "TillOneOfSortModel" "at" "I", Cond.fieldLink RX6 42 "TillOneOfSortModel" "taped" "I", Cond.fieldLink RX6 13 "TillOneOfSortModel" "s" "[I", Cond.fieldLink RX6 19 "TillOneOfSortModel" "read" "[I", Cond.methodLink RX6 77 yX6_readsStatement, Cond.instanceMethod yX6_readsStatement, Cond.selects RX6 yX6_readsStatement yX6_readsStatement, Cond.initialized RX6, Cond.code yX6_readsStatement cX6_readsStatement 3 (some .boolean), Cond.methodLink RX6 49 yX6_sign, Cond.instanceMethod yX6_sign, Cond.selects RX6 yX6_sign yX6_sign, Cond.code yX6_sign cX6_sign 1 (some .int), Cond.fieldLink RX6 22 "TillOneOfSortModel" "tape" "[I", Cond.methodLink RX6 63 yX6_readsKind, Cond.instanceMethod yX6_readsKind, Cond.selects RX6 yX6_readsKind yX6_readsKind, Cond.code yX6_readsKind cX6_readsKind 1 (some .boolean), Cond.fieldLink RX6 25 "TillOneOfSortModel" "told" "[I", Cond.methodLink RX6 57 yX6_kindOf, Cond.static yX6_kindOf, Cond.code yX6_kindOf cX6_kindOf 1 (some .int), Cond.methodLink RX6 60 yX6_readsNumber, Cond.instanceMethod yX6_readsNumber]
def wsX6_reads_r2 : List Cond := [Cond.selects RX6 yX6_readsNumber yX6_readsNumber, Cond.code yX6_readsNumber cX6_readsNumber 4 (some .boolean), Cond.methodLink RX6 53 yX6_isIn, Cond.static yX6_isIn, Cond.code yX6_isIn cX6_isIn 2 (some .boolean), Cond.methodLink RX6 67 yX6_readsLean, Cond.instanceMethod yX6_readsLean, Cond.selects RX6 yX6_readsLean yX6_readsLean, Cond.code yX6_readsLean cX6_readsLean 2 (some .boolean), Cond.methodLink RX6 70 yX6_readsFamily, Cond.instanceMethod yX6_readsFamily, Cond.selects RX6 yX6_readsFamily yX6_readsFamily, Cond.code yX6_readsFamily cX6_readsFamily 1 (some .boolean), Cond.methodLink RX6 73 yX6_takes, Cond.instanceMethod yX6_takes, Cond.selects RX6 yX6_takes yX6_takes, Cond.code yX6_takes cX6_takes 2 (some .boolean), Cond.methodLink RX6 80 yX6_lays, Cond.static yX6_lays, Cond.code yX6_lays cX6_lays 3 none, Cond.methodLink RX6 84 yX6_comes, Cond.instanceMethod yX6_comes, Cond.selects RX6 yX6_comes yX6_comes, Cond.code yX6_comes cX6_comes 3 (some .boolean)]
def wsX6_reads : List Cond := .code yX6_reads cX6_reads 5 (some .int) :: ((wsX6_reads_r1 ++ wsX6_reads_r2) ++ wsX60)
def wsX6_land_r1 : List Cond := [Cond.fieldLink RX6 42 "TillOneOfSortModel" "taped" "I", Cond.methodLink RX6 87 yX6_reads, Cond.instanceMethod yX6_reads, Cond.selects RX6 yX6_reads yX6_reads, Cond.initialized RX6, Cond.code yX6_reads cX6_reads 5 (some .int), Cond.fieldLink RX6 46 "TillOneOfSortModel" "at" "I", Cond.fieldLink RX6 13 "TillOneOfSortModel" "s" "[I", Cond.fieldLink RX6 19 "TillOneOfSortModel" "read" "[I", Cond.methodLink RX6 77 yX6_readsStatement, Cond.instanceMethod yX6_readsStatement, Cond.selects RX6 yX6_readsStatement yX6_readsStatement, Cond.code yX6_readsStatement cX6_readsStatement 3 (some .boolean), Cond.methodLink RX6 49 yX6_sign, Cond.instanceMethod yX6_sign, Cond.selects RX6 yX6_sign yX6_sign, Cond.code yX6_sign cX6_sign 1 (some .int), Cond.fieldLink RX6 22 "TillOneOfSortModel" "tape" "[I", Cond.methodLink RX6 63 yX6_readsKind, Cond.instanceMethod yX6_readsKind, Cond.selects RX6 yX6_readsKind yX6_readsKind, Cond.code yX6_readsKind cX6_readsKind 1 (some .boolean), Cond.fieldLink RX6 25 "TillOneOfSortModel" "told" "[I", Cond.methodLink RX6 57 yX6_kindOf]
def wsX6_land_r2 : List Cond := [Cond.static yX6_kindOf, Cond.code yX6_kindOf cX6_kindOf 1 (some .int), Cond.methodLink RX6 60 yX6_readsNumber, Cond.instanceMethod yX6_readsNumber, Cond.selects RX6 yX6_readsNumber yX6_readsNumber, Cond.code yX6_readsNumber cX6_readsNumber 4 (some .boolean), Cond.methodLink RX6 53 yX6_isIn, Cond.static yX6_isIn, Cond.code yX6_isIn cX6_isIn 2 (some .boolean), Cond.methodLink RX6 67 yX6_readsLean, Cond.instanceMethod yX6_readsLean, Cond.selects RX6 yX6_readsLean yX6_readsLean, Cond.code yX6_readsLean cX6_readsLean 2 (some .boolean), Cond.methodLink RX6 70 yX6_readsFamily, Cond.instanceMethod yX6_readsFamily, Cond.selects RX6 yX6_readsFamily yX6_readsFamily, Cond.code yX6_readsFamily cX6_readsFamily 1 (some .boolean), Cond.methodLink RX6 73 yX6_takes, Cond.instanceMethod yX6_takes, Cond.selects RX6 yX6_takes yX6_takes, Cond.code yX6_takes cX6_takes 2 (some .boolean), Cond.methodLink RX6 80 yX6_lays, Cond.static yX6_lays, Cond.code yX6_lays cX6_lays 3 none]
def wsX6_land_r3 : List Cond := [Cond.methodLink RX6 84 yX6_comes, Cond.instanceMethod yX6_comes, Cond.selects RX6 yX6_comes yX6_comes, Cond.code yX6_comes cX6_comes 3 (some .boolean)]
def wsX6_land : List Cond := .code yX6_land cX6_land 2 (some .int) :: ((wsX6_land_r1 ++ (wsX6_land_r2 ++ wsX6_land_r3)) ++ wsX60)
def wsX6_stopsBy : List Cond := .code yX6_stopsBy cX6_stopsBy 5 (some .boolean) :: ([])
def wsX6_endsBy : List Cond := .code yX6_endsBy cX6_endsBy 5 (some .boolean) :: ([.fieldLink RX6 13 "TillOneOfSortModel" "s" "[I", .methodLink RX6 90 yX6_stopsBy, .static yX6_stopsBy, .initialized RX6, .code yX6_stopsBy cX6_stopsBy 5 (some .boolean)] ++ wsX60)
def wsX6_twelfths : List Cond := .code yX6_twelfths cX6_twelfths 4 (some .int) :: ([.fieldLink RX6 13 "TillOneOfSortModel" "s" "[I"] ++ wsX60)
def wsX6_law : List Cond := .code yX6_law cX6_law 5 (some .int) :: ([.fieldLink RX6 13 "TillOneOfSortModel" "s" "[I", .methodLink RX6 53 yX6_isIn, .static yX6_isIn, .initialized RX6, .code yX6_isIn cX6_isIn 2 (some .boolean), .methodLink RX6 38 yX6_within, .static yX6_within, .code yX6_within cX6_within 3 (some .int), .methodLink RX6 34 yX6_refuse, .instanceMethod yX6_refuse, .selects RX6 yX6_refuse yX6_refuse, .code yX6_refuse cX6_refuse 2 (some .int), .fieldLink RX6 7 "TillOneOfSortModel" "refusals" "[I"] ++ wsX60)
def wsX6_set : List Cond := .code yX6_set cX6_set 5 (some .int) :: ([.fieldLink RX6 13 "TillOneOfSortModel" "s" "[I", .methodLink RX6 53 yX6_isIn, .static yX6_isIn, .initialized RX6, .code yX6_isIn cX6_isIn 2 (some .boolean), .methodLink RX6 38 yX6_within, .static yX6_within, .code yX6_within cX6_within 3 (some .int), .methodLink RX6 34 yX6_refuse, .instanceMethod yX6_refuse, .selects RX6 yX6_refuse yX6_refuse, .code yX6_refuse cX6_refuse 2 (some .int), .fieldLink RX6 7 "TillOneOfSortModel" "refusals" "[I"] ++ wsX60)
def wsX6_stops : List Cond := .code yX6_stops cX6_stops 5 (some .int) :: ([.fieldLink RX6 13 "TillOneOfSortModel" "s" "[I", .methodLink RX6 34 yX6_refuse, .instanceMethod yX6_refuse, .selects RX6 yX6_refuse yX6_refuse, .initialized RX6, .code yX6_refuse cX6_refuse 2 (some .int), .fieldLink RX6 7 "TillOneOfSortModel" "refusals" "[I", .methodLink RX6 90 yX6_stopsBy, .static yX6_stopsBy, .code yX6_stopsBy cX6_stopsBy 5 (some .boolean)] ++ wsX60)
def wsX6_isFamily : List Cond := .code yX6_isFamily cX6_isFamily 7 none :: ([.fieldLink RX6 94 "TillOneOfSortModel" "children" "J", .fieldLink RX6 98 "TillOneOfSortModel" "ones" "J", .fieldLink RX6 101 "TillOneOfSortModel" "shares" "J", .fieldLink RX6 104 "TillOneOfSortModel" "more" "J", .fieldLink RX6 107 "TillOneOfSortModel" "alike" "J", .fieldLink RX6 110 "TillOneOfSortModel" "meets" "J", .fieldLink RX6 113 "TillOneOfSortModel" "pairs" "J", .fieldLink RX6 28 "TillOneOfSortModel" "sized" "[J", .fieldLink RX6 116 "TillOneOfSortModel" "saysOnes" "I", .fieldLink RX6 119 "TillOneOfSortModel" "saysSort" "I", .fieldLink RX6 122 "TillOneOfSortModel" "saysZeros" "I", .fieldLink RX6 125 "TillOneOfSortModel" "says" "J", .fieldLink RX6 128 "TillOneOfSortModel" "eldest" "J"] ++ wsX60)
def wsX6_goesOn_r1 : List Cond := [Cond.constantLong RX6 142 (12), Cond.methodLink RX6 131 yX6_endsBy, Cond.instanceMethod yX6_endsBy, Cond.selects RX6 yX6_endsBy yX6_endsBy, Cond.initialized RX6, Cond.code yX6_endsBy cX6_endsBy 5 (some .boolean), Cond.fieldLink RX6 13 "TillOneOfSortModel" "s" "[I", Cond.methodLink RX6 90 yX6_stopsBy, Cond.static yX6_stopsBy, Cond.code yX6_stopsBy cX6_stopsBy 5 (some .boolean), Cond.methodLink RX6 135 yX6_isFamily, Cond.instanceMethod yX6_isFamily, Cond.selects RX6 yX6_isFamily yX6_isFamily, Cond.code yX6_isFamily cX6_isFamily 7 none, Cond.fieldLink RX6 94 "TillOneOfSortModel" "children" "J", Cond.fieldLink RX6 98 "TillOneOfSortModel" "ones" "J", Cond.fieldLink RX6 101 "TillOneOfSortModel" "shares" "J", Cond.fieldLink RX6 104 "TillOneOfSortModel" "more" "J", Cond.fieldLink RX6 107 "TillOneOfSortModel" "alike" "J", Cond.fieldLink RX6 110 "TillOneOfSortModel" "meets" "J", Cond.fieldLink RX6 113 "TillOneOfSortModel" "pairs" "J", Cond.fieldLink RX6 28 "TillOneOfSortModel" "sized" "[J", Cond.fieldLink RX6 116 "TillOneOfSortModel" "saysOnes" "I", Cond.fieldLink RX6 119 "TillOneOfSortModel" "saysSort" "I"]
def wsX6_goesOn_r2 : List Cond := [Cond.fieldLink RX6 122 "TillOneOfSortModel" "saysZeros" "I", Cond.fieldLink RX6 125 "TillOneOfSortModel" "says" "J", Cond.fieldLink RX6 128 "TillOneOfSortModel" "eldest" "J", Cond.methodLink RX6 139 yX6_twelfths, Cond.instanceMethod yX6_twelfths, Cond.selects RX6 yX6_twelfths yX6_twelfths, Cond.code yX6_twelfths cX6_twelfths 4 (some .int), Cond.methodLink RX6 144 yX6_goesOn, Cond.instanceMethod yX6_goesOn, Cond.selects RX6 yX6_goesOn yX6_goesOn]
def wsX6_goesOn : List Cond := .code yX6_goesOn cX6_goesOn 10 none :: ((wsX6_goesOn_r1 ++ wsX6_goesOn_r2) ++ wsX60)
def wsX6_finds_r1 : List Cond := [Cond.fieldLink RX6 148 "TillOneOfSortModel" "whole" "J", Cond.fieldLink RX6 13 "TillOneOfSortModel" "s" "[I", Cond.constantLong RX6 142 (12), Cond.fieldLink RX6 94 "TillOneOfSortModel" "children" "J", Cond.fieldLink RX6 98 "TillOneOfSortModel" "ones" "J", Cond.fieldLink RX6 101 "TillOneOfSortModel" "shares" "J", Cond.fieldLink RX6 104 "TillOneOfSortModel" "more" "J", Cond.fieldLink RX6 107 "TillOneOfSortModel" "alike" "J", Cond.fieldLink RX6 110 "TillOneOfSortModel" "meets" "J", Cond.fieldLink RX6 113 "TillOneOfSortModel" "pairs" "J", Cond.fieldLink RX6 125 "TillOneOfSortModel" "says" "J", Cond.fieldLink RX6 128 "TillOneOfSortModel" "eldest" "J", Cond.fieldLink RX6 28 "TillOneOfSortModel" "sized" "[J", Cond.methodLink RX6 144 yX6_goesOn, Cond.instanceMethod yX6_goesOn, Cond.selects RX6 yX6_goesOn yX6_goesOn, Cond.initialized RX6, Cond.code yX6_goesOn cX6_goesOn 10 none, Cond.methodLink RX6 131 yX6_endsBy, Cond.instanceMethod yX6_endsBy, Cond.selects RX6 yX6_endsBy yX6_endsBy, Cond.code yX6_endsBy cX6_endsBy 5 (some .boolean), Cond.methodLink RX6 90 yX6_stopsBy, Cond.static yX6_stopsBy]
def wsX6_finds_r2 : List Cond := [Cond.code yX6_stopsBy cX6_stopsBy 5 (some .boolean), Cond.methodLink RX6 135 yX6_isFamily, Cond.instanceMethod yX6_isFamily, Cond.selects RX6 yX6_isFamily yX6_isFamily, Cond.code yX6_isFamily cX6_isFamily 7 none, Cond.fieldLink RX6 116 "TillOneOfSortModel" "saysOnes" "I", Cond.fieldLink RX6 119 "TillOneOfSortModel" "saysSort" "I", Cond.fieldLink RX6 122 "TillOneOfSortModel" "saysZeros" "I", Cond.methodLink RX6 139 yX6_twelfths, Cond.instanceMethod yX6_twelfths, Cond.selects RX6 yX6_twelfths yX6_twelfths, Cond.code yX6_twelfths cX6_twelfths 4 (some .int)]
def wsX6_finds : List Cond := .code yX6_finds cX6_finds 3 none :: ((wsX6_finds_r1 ++ wsX6_finds_r2) ++ wsX60)
def wsX6_common : List Cond := .code yX6_common cX6_common 4 (some .long) :: ([.methodLink RX6 151 yX6_common, .static yX6_common, .initialized RX6])
def wsX6_part : List Cond := .code yX6_part cX6_part 7 (some .long) :: ([.methodLink RX6 151 yX6_common, .static yX6_common, .initialized RX6, .code yX6_common cX6_common 4 (some .long)])
def wsX6_isPart : List Cond := .code yX6_isPart cX6_isPart 1 (some .boolean) :: ([.methodLink RX6 53 yX6_isIn, .static yX6_isIn, .initialized RX6, .code yX6_isIn cX6_isIn 2 (some .boolean)])
def wsX6_mean_r1 : List Cond := [Cond.fieldLink RX6 13 "TillOneOfSortModel" "s" "[I", Cond.fieldLink RX6 94 "TillOneOfSortModel" "children" "J", Cond.fieldLink RX6 98 "TillOneOfSortModel" "ones" "J", Cond.fieldLink RX6 148 "TillOneOfSortModel" "whole" "J", Cond.methodLink RX6 53 yX6_isIn, Cond.static yX6_isIn, Cond.initialized RX6, Cond.code yX6_isIn cX6_isIn 2 (some .boolean), Cond.methodLink RX6 155 yX6_isPart, Cond.static yX6_isPart, Cond.code yX6_isPart cX6_isPart 1 (some .boolean), Cond.methodLink RX6 158 yX6_refuseWide, Cond.instanceMethod yX6_refuseWide, Cond.selects RX6 yX6_refuseWide yX6_refuseWide, Cond.code yX6_refuseWide cX6_refuseWide 2 (some .long), Cond.constantLong RX6 32 (4000000000000000000), Cond.methodLink RX6 34 yX6_refuse, Cond.instanceMethod yX6_refuse, Cond.selects RX6 yX6_refuse yX6_refuse, Cond.code yX6_refuse cX6_refuse 2 (some .int), Cond.fieldLink RX6 7 "TillOneOfSortModel" "refusals" "[I", Cond.methodLink RX6 162 yX6_finds, Cond.instanceMethod yX6_finds, Cond.selects RX6 yX6_finds yX6_finds]
def wsX6_mean_r2 : List Cond := [Cond.code yX6_finds cX6_finds 3 none, Cond.constantLong RX6 142 (12), Cond.fieldLink RX6 101 "TillOneOfSortModel" "shares" "J", Cond.fieldLink RX6 104 "TillOneOfSortModel" "more" "J", Cond.fieldLink RX6 107 "TillOneOfSortModel" "alike" "J", Cond.fieldLink RX6 110 "TillOneOfSortModel" "meets" "J", Cond.fieldLink RX6 113 "TillOneOfSortModel" "pairs" "J", Cond.fieldLink RX6 125 "TillOneOfSortModel" "says" "J", Cond.fieldLink RX6 128 "TillOneOfSortModel" "eldest" "J", Cond.fieldLink RX6 28 "TillOneOfSortModel" "sized" "[J", Cond.methodLink RX6 144 yX6_goesOn, Cond.instanceMethod yX6_goesOn, Cond.selects RX6 yX6_goesOn yX6_goesOn, Cond.code yX6_goesOn cX6_goesOn 10 none, Cond.methodLink RX6 131 yX6_endsBy, Cond.instanceMethod yX6_endsBy, Cond.selects RX6 yX6_endsBy yX6_endsBy, Cond.code yX6_endsBy cX6_endsBy 5 (some .boolean), Cond.methodLink RX6 90 yX6_stopsBy, Cond.static yX6_stopsBy, Cond.code yX6_stopsBy cX6_stopsBy 5 (some .boolean), Cond.methodLink RX6 135 yX6_isFamily, Cond.instanceMethod yX6_isFamily, Cond.selects RX6 yX6_isFamily yX6_isFamily]
def wsX6_mean_r3 : List Cond := [Cond.code yX6_isFamily cX6_isFamily 7 none, Cond.fieldLink RX6 116 "TillOneOfSortModel" "saysOnes" "I", Cond.fieldLink RX6 119 "TillOneOfSortModel" "saysSort" "I", Cond.fieldLink RX6 122 "TillOneOfSortModel" "saysZeros" "I", Cond.methodLink RX6 139 yX6_twelfths, Cond.instanceMethod yX6_twelfths, Cond.selects RX6 yX6_twelfths yX6_twelfths, Cond.code yX6_twelfths cX6_twelfths 4 (some .int), Cond.methodLink RX6 166 yX6_part, Cond.static yX6_part, Cond.code yX6_part cX6_part 7 (some .long), Cond.methodLink RX6 151 yX6_common, Cond.static yX6_common, Cond.code yX6_common cX6_common 4 (some .long)]
def wsX6_mean : List Cond := .code yX6_mean cX6_mean 3 (some .long) :: ((wsX6_mean_r1 ++ (wsX6_mean_r2 ++ wsX6_mean_r3)) ++ wsX60)
def wsX6_share_r1 : List Cond := [Cond.fieldLink RX6 13 "TillOneOfSortModel" "s" "[I", Cond.fieldLink RX6 101 "TillOneOfSortModel" "shares" "J", Cond.fieldLink RX6 148 "TillOneOfSortModel" "whole" "J", Cond.constantLong RX6 170 (2520), Cond.methodLink RX6 155 yX6_isPart, Cond.static yX6_isPart, Cond.initialized RX6, Cond.code yX6_isPart cX6_isPart 1 (some .boolean), Cond.methodLink RX6 53 yX6_isIn, Cond.static yX6_isIn, Cond.code yX6_isIn cX6_isIn 2 (some .boolean), Cond.methodLink RX6 158 yX6_refuseWide, Cond.instanceMethod yX6_refuseWide, Cond.selects RX6 yX6_refuseWide yX6_refuseWide, Cond.code yX6_refuseWide cX6_refuseWide 2 (some .long), Cond.constantLong RX6 32 (4000000000000000000), Cond.methodLink RX6 34 yX6_refuse, Cond.instanceMethod yX6_refuse, Cond.selects RX6 yX6_refuse yX6_refuse, Cond.code yX6_refuse cX6_refuse 2 (some .int), Cond.fieldLink RX6 7 "TillOneOfSortModel" "refusals" "[I", Cond.methodLink RX6 162 yX6_finds, Cond.instanceMethod yX6_finds, Cond.selects RX6 yX6_finds yX6_finds]
def wsX6_share_r2 : List Cond := [Cond.code yX6_finds cX6_finds 3 none, Cond.constantLong RX6 142 (12), Cond.fieldLink RX6 94 "TillOneOfSortModel" "children" "J", Cond.fieldLink RX6 98 "TillOneOfSortModel" "ones" "J", Cond.fieldLink RX6 104 "TillOneOfSortModel" "more" "J", Cond.fieldLink RX6 107 "TillOneOfSortModel" "alike" "J", Cond.fieldLink RX6 110 "TillOneOfSortModel" "meets" "J", Cond.fieldLink RX6 113 "TillOneOfSortModel" "pairs" "J", Cond.fieldLink RX6 125 "TillOneOfSortModel" "says" "J", Cond.fieldLink RX6 128 "TillOneOfSortModel" "eldest" "J", Cond.fieldLink RX6 28 "TillOneOfSortModel" "sized" "[J", Cond.methodLink RX6 144 yX6_goesOn, Cond.instanceMethod yX6_goesOn, Cond.selects RX6 yX6_goesOn yX6_goesOn, Cond.code yX6_goesOn cX6_goesOn 10 none, Cond.methodLink RX6 131 yX6_endsBy, Cond.instanceMethod yX6_endsBy, Cond.selects RX6 yX6_endsBy yX6_endsBy, Cond.code yX6_endsBy cX6_endsBy 5 (some .boolean), Cond.methodLink RX6 90 yX6_stopsBy, Cond.static yX6_stopsBy, Cond.code yX6_stopsBy cX6_stopsBy 5 (some .boolean), Cond.methodLink RX6 135 yX6_isFamily, Cond.instanceMethod yX6_isFamily]
def wsX6_share_r3 : List Cond := [Cond.selects RX6 yX6_isFamily yX6_isFamily, Cond.code yX6_isFamily cX6_isFamily 7 none, Cond.fieldLink RX6 116 "TillOneOfSortModel" "saysOnes" "I", Cond.fieldLink RX6 119 "TillOneOfSortModel" "saysSort" "I", Cond.fieldLink RX6 122 "TillOneOfSortModel" "saysZeros" "I", Cond.methodLink RX6 139 yX6_twelfths, Cond.instanceMethod yX6_twelfths, Cond.selects RX6 yX6_twelfths yX6_twelfths, Cond.code yX6_twelfths cX6_twelfths 4 (some .int), Cond.methodLink RX6 166 yX6_part, Cond.static yX6_part, Cond.code yX6_part cX6_part 7 (some .long), Cond.methodLink RX6 151 yX6_common, Cond.static yX6_common, Cond.code yX6_common cX6_common 4 (some .long)]
def wsX6_share : List Cond := .code yX6_share cX6_share 2 (some .long) :: ((wsX6_share_r1 ++ (wsX6_share_r2 ++ wsX6_share_r3)) ++ wsX60)
def wsX6_all_r1 : List Cond := [Cond.fieldLink RX6 13 "TillOneOfSortModel" "s" "[I", Cond.fieldLink RX6 98 "TillOneOfSortModel" "ones" "J", Cond.fieldLink RX6 94 "TillOneOfSortModel" "children" "J", Cond.methodLink RX6 155 yX6_isPart, Cond.static yX6_isPart, Cond.initialized RX6, Cond.code yX6_isPart cX6_isPart 1 (some .boolean), Cond.methodLink RX6 53 yX6_isIn, Cond.static yX6_isIn, Cond.code yX6_isIn cX6_isIn 2 (some .boolean), Cond.methodLink RX6 158 yX6_refuseWide, Cond.instanceMethod yX6_refuseWide, Cond.selects RX6 yX6_refuseWide yX6_refuseWide, Cond.code yX6_refuseWide cX6_refuseWide 2 (some .long), Cond.constantLong RX6 32 (4000000000000000000), Cond.methodLink RX6 34 yX6_refuse, Cond.instanceMethod yX6_refuse, Cond.selects RX6 yX6_refuse yX6_refuse, Cond.code yX6_refuse cX6_refuse 2 (some .int), Cond.fieldLink RX6 7 "TillOneOfSortModel" "refusals" "[I", Cond.methodLink RX6 162 yX6_finds, Cond.instanceMethod yX6_finds, Cond.selects RX6 yX6_finds yX6_finds, Cond.code yX6_finds cX6_finds 3 none]
def wsX6_all_r2 : List Cond := [Cond.fieldLink RX6 148 "TillOneOfSortModel" "whole" "J", Cond.constantLong RX6 142 (12), Cond.fieldLink RX6 101 "TillOneOfSortModel" "shares" "J", Cond.fieldLink RX6 104 "TillOneOfSortModel" "more" "J", Cond.fieldLink RX6 107 "TillOneOfSortModel" "alike" "J", Cond.fieldLink RX6 110 "TillOneOfSortModel" "meets" "J", Cond.fieldLink RX6 113 "TillOneOfSortModel" "pairs" "J", Cond.fieldLink RX6 125 "TillOneOfSortModel" "says" "J", Cond.fieldLink RX6 128 "TillOneOfSortModel" "eldest" "J", Cond.fieldLink RX6 28 "TillOneOfSortModel" "sized" "[J", Cond.methodLink RX6 144 yX6_goesOn, Cond.instanceMethod yX6_goesOn, Cond.selects RX6 yX6_goesOn yX6_goesOn, Cond.code yX6_goesOn cX6_goesOn 10 none, Cond.methodLink RX6 131 yX6_endsBy, Cond.instanceMethod yX6_endsBy, Cond.selects RX6 yX6_endsBy yX6_endsBy, Cond.code yX6_endsBy cX6_endsBy 5 (some .boolean), Cond.methodLink RX6 90 yX6_stopsBy, Cond.static yX6_stopsBy, Cond.code yX6_stopsBy cX6_stopsBy 5 (some .boolean), Cond.methodLink RX6 135 yX6_isFamily, Cond.instanceMethod yX6_isFamily, Cond.selects RX6 yX6_isFamily yX6_isFamily]
def wsX6_all_r3 : List Cond := [Cond.code yX6_isFamily cX6_isFamily 7 none, Cond.fieldLink RX6 116 "TillOneOfSortModel" "saysOnes" "I", Cond.fieldLink RX6 119 "TillOneOfSortModel" "saysSort" "I", Cond.fieldLink RX6 122 "TillOneOfSortModel" "saysZeros" "I", Cond.methodLink RX6 139 yX6_twelfths, Cond.instanceMethod yX6_twelfths, Cond.selects RX6 yX6_twelfths yX6_twelfths, Cond.code yX6_twelfths cX6_twelfths 4 (some .int), Cond.methodLink RX6 166 yX6_part, Cond.static yX6_part, Cond.code yX6_part cX6_part 7 (some .long), Cond.methodLink RX6 151 yX6_common, Cond.static yX6_common, Cond.code yX6_common cX6_common 4 (some .long)]
def wsX6_all : List Cond := .code yX6_all cX6_all 2 (some .long) :: ((wsX6_all_r1 ++ (wsX6_all_r2 ++ wsX6_all_r3)) ++ wsX60)
def wsX6_more_r1 : List Cond := [Cond.fieldLink RX6 13 "TillOneOfSortModel" "s" "[I", Cond.fieldLink RX6 104 "TillOneOfSortModel" "more" "J", Cond.fieldLink RX6 107 "TillOneOfSortModel" "alike" "J", Cond.fieldLink RX6 148 "TillOneOfSortModel" "whole" "J", Cond.methodLink RX6 53 yX6_isIn, Cond.static yX6_isIn, Cond.initialized RX6, Cond.code yX6_isIn cX6_isIn 2 (some .boolean), Cond.methodLink RX6 155 yX6_isPart, Cond.static yX6_isPart, Cond.code yX6_isPart cX6_isPart 1 (some .boolean), Cond.methodLink RX6 158 yX6_refuseWide, Cond.instanceMethod yX6_refuseWide, Cond.selects RX6 yX6_refuseWide yX6_refuseWide, Cond.code yX6_refuseWide cX6_refuseWide 2 (some .long), Cond.constantLong RX6 32 (4000000000000000000), Cond.methodLink RX6 34 yX6_refuse, Cond.instanceMethod yX6_refuse, Cond.selects RX6 yX6_refuse yX6_refuse, Cond.code yX6_refuse cX6_refuse 2 (some .int), Cond.fieldLink RX6 7 "TillOneOfSortModel" "refusals" "[I", Cond.methodLink RX6 162 yX6_finds, Cond.instanceMethod yX6_finds, Cond.selects RX6 yX6_finds yX6_finds]
def wsX6_more_r2 : List Cond := [Cond.code yX6_finds cX6_finds 3 none, Cond.constantLong RX6 142 (12), Cond.fieldLink RX6 94 "TillOneOfSortModel" "children" "J", Cond.fieldLink RX6 98 "TillOneOfSortModel" "ones" "J", Cond.fieldLink RX6 101 "TillOneOfSortModel" "shares" "J", Cond.fieldLink RX6 110 "TillOneOfSortModel" "meets" "J", Cond.fieldLink RX6 113 "TillOneOfSortModel" "pairs" "J", Cond.fieldLink RX6 125 "TillOneOfSortModel" "says" "J", Cond.fieldLink RX6 128 "TillOneOfSortModel" "eldest" "J", Cond.fieldLink RX6 28 "TillOneOfSortModel" "sized" "[J", Cond.methodLink RX6 144 yX6_goesOn, Cond.instanceMethod yX6_goesOn, Cond.selects RX6 yX6_goesOn yX6_goesOn, Cond.code yX6_goesOn cX6_goesOn 10 none, Cond.methodLink RX6 131 yX6_endsBy, Cond.instanceMethod yX6_endsBy, Cond.selects RX6 yX6_endsBy yX6_endsBy, Cond.code yX6_endsBy cX6_endsBy 5 (some .boolean), Cond.methodLink RX6 90 yX6_stopsBy, Cond.static yX6_stopsBy, Cond.code yX6_stopsBy cX6_stopsBy 5 (some .boolean), Cond.methodLink RX6 135 yX6_isFamily, Cond.instanceMethod yX6_isFamily, Cond.selects RX6 yX6_isFamily yX6_isFamily]
def wsX6_more_r3 : List Cond := [Cond.code yX6_isFamily cX6_isFamily 7 none, Cond.fieldLink RX6 116 "TillOneOfSortModel" "saysOnes" "I", Cond.fieldLink RX6 119 "TillOneOfSortModel" "saysSort" "I", Cond.fieldLink RX6 122 "TillOneOfSortModel" "saysZeros" "I", Cond.methodLink RX6 139 yX6_twelfths, Cond.instanceMethod yX6_twelfths, Cond.selects RX6 yX6_twelfths yX6_twelfths, Cond.code yX6_twelfths cX6_twelfths 4 (some .int), Cond.methodLink RX6 166 yX6_part, Cond.static yX6_part, Cond.code yX6_part cX6_part 7 (some .long), Cond.methodLink RX6 151 yX6_common, Cond.static yX6_common, Cond.code yX6_common cX6_common 4 (some .long)]
def wsX6_more : List Cond := .code yX6_more cX6_more 3 (some .long) :: ((wsX6_more_r1 ++ (wsX6_more_r2 ++ wsX6_more_r3)) ++ wsX60)
def wsX6_size_r1 : List Cond := [Cond.fieldLink RX6 13 "TillOneOfSortModel" "s" "[I", Cond.fieldLink RX6 28 "TillOneOfSortModel" "sized" "[J", Cond.fieldLink RX6 148 "TillOneOfSortModel" "whole" "J", Cond.methodLink RX6 38 yX6_within, Cond.static yX6_within, Cond.initialized RX6, Cond.code yX6_within cX6_within 3 (some .int), Cond.methodLink RX6 155 yX6_isPart, Cond.static yX6_isPart, Cond.code yX6_isPart cX6_isPart 1 (some .boolean), Cond.methodLink RX6 53 yX6_isIn, Cond.static yX6_isIn, Cond.code yX6_isIn cX6_isIn 2 (some .boolean), Cond.methodLink RX6 158 yX6_refuseWide, Cond.instanceMethod yX6_refuseWide, Cond.selects RX6 yX6_refuseWide yX6_refuseWide, Cond.code yX6_refuseWide cX6_refuseWide 2 (some .long), Cond.constantLong RX6 32 (4000000000000000000), Cond.methodLink RX6 34 yX6_refuse, Cond.instanceMethod yX6_refuse, Cond.selects RX6 yX6_refuse yX6_refuse, Cond.code yX6_refuse cX6_refuse 2 (some .int), Cond.fieldLink RX6 7 "TillOneOfSortModel" "refusals" "[I", Cond.methodLink RX6 162 yX6_finds]
def wsX6_size_r2 : List Cond := [Cond.instanceMethod yX6_finds, Cond.selects RX6 yX6_finds yX6_finds, Cond.code yX6_finds cX6_finds 3 none, Cond.constantLong RX6 142 (12), Cond.fieldLink RX6 94 "TillOneOfSortModel" "children" "J", Cond.fieldLink RX6 98 "TillOneOfSortModel" "ones" "J", Cond.fieldLink RX6 101 "TillOneOfSortModel" "shares" "J", Cond.fieldLink RX6 104 "TillOneOfSortModel" "more" "J", Cond.fieldLink RX6 107 "TillOneOfSortModel" "alike" "J", Cond.fieldLink RX6 110 "TillOneOfSortModel" "meets" "J", Cond.fieldLink RX6 113 "TillOneOfSortModel" "pairs" "J", Cond.fieldLink RX6 125 "TillOneOfSortModel" "says" "J", Cond.fieldLink RX6 128 "TillOneOfSortModel" "eldest" "J", Cond.methodLink RX6 144 yX6_goesOn, Cond.instanceMethod yX6_goesOn, Cond.selects RX6 yX6_goesOn yX6_goesOn, Cond.code yX6_goesOn cX6_goesOn 10 none, Cond.methodLink RX6 131 yX6_endsBy, Cond.instanceMethod yX6_endsBy, Cond.selects RX6 yX6_endsBy yX6_endsBy, Cond.code yX6_endsBy cX6_endsBy 5 (some .boolean), Cond.methodLink RX6 90 yX6_stopsBy, Cond.static yX6_stopsBy, Cond.code yX6_stopsBy cX6_stopsBy 5 (some .boolean)]
def wsX6_size_r3 : List Cond := [Cond.methodLink RX6 135 yX6_isFamily, Cond.instanceMethod yX6_isFamily, Cond.selects RX6 yX6_isFamily yX6_isFamily, Cond.code yX6_isFamily cX6_isFamily 7 none, Cond.fieldLink RX6 116 "TillOneOfSortModel" "saysOnes" "I", Cond.fieldLink RX6 119 "TillOneOfSortModel" "saysSort" "I", Cond.fieldLink RX6 122 "TillOneOfSortModel" "saysZeros" "I", Cond.methodLink RX6 139 yX6_twelfths, Cond.instanceMethod yX6_twelfths, Cond.selects RX6 yX6_twelfths yX6_twelfths, Cond.code yX6_twelfths cX6_twelfths 4 (some .int), Cond.methodLink RX6 166 yX6_part, Cond.static yX6_part, Cond.code yX6_part cX6_part 7 (some .long), Cond.methodLink RX6 151 yX6_common, Cond.static yX6_common, Cond.code yX6_common cX6_common 4 (some .long)]
def wsX6_size : List Cond := .code yX6_size cX6_size 4 (some .long) :: ((wsX6_size_r1 ++ (wsX6_size_r2 ++ wsX6_size_r3)) ++ wsX60)
def wsX6_met_r1 : List Cond := [Cond.fieldLink RX6 13 "TillOneOfSortModel" "s" "[I", Cond.fieldLink RX6 110 "TillOneOfSortModel" "meets" "J", Cond.fieldLink RX6 113 "TillOneOfSortModel" "pairs" "J", Cond.fieldLink RX6 94 "TillOneOfSortModel" "children" "J", Cond.methodLink RX6 53 yX6_isIn, Cond.static yX6_isIn, Cond.initialized RX6, Cond.code yX6_isIn cX6_isIn 2 (some .boolean), Cond.methodLink RX6 155 yX6_isPart, Cond.static yX6_isPart, Cond.code yX6_isPart cX6_isPart 1 (some .boolean), Cond.methodLink RX6 158 yX6_refuseWide, Cond.instanceMethod yX6_refuseWide, Cond.selects RX6 yX6_refuseWide yX6_refuseWide, Cond.code yX6_refuseWide cX6_refuseWide 2 (some .long), Cond.constantLong RX6 32 (4000000000000000000), Cond.methodLink RX6 34 yX6_refuse, Cond.instanceMethod yX6_refuse, Cond.selects RX6 yX6_refuse yX6_refuse, Cond.code yX6_refuse cX6_refuse 2 (some .int), Cond.fieldLink RX6 7 "TillOneOfSortModel" "refusals" "[I", Cond.methodLink RX6 162 yX6_finds, Cond.instanceMethod yX6_finds, Cond.selects RX6 yX6_finds yX6_finds]
def wsX6_met_r2 : List Cond := [Cond.code yX6_finds cX6_finds 3 none, Cond.fieldLink RX6 148 "TillOneOfSortModel" "whole" "J", Cond.constantLong RX6 142 (12), Cond.fieldLink RX6 98 "TillOneOfSortModel" "ones" "J", Cond.fieldLink RX6 101 "TillOneOfSortModel" "shares" "J", Cond.fieldLink RX6 104 "TillOneOfSortModel" "more" "J", Cond.fieldLink RX6 107 "TillOneOfSortModel" "alike" "J", Cond.fieldLink RX6 125 "TillOneOfSortModel" "says" "J", Cond.fieldLink RX6 128 "TillOneOfSortModel" "eldest" "J", Cond.fieldLink RX6 28 "TillOneOfSortModel" "sized" "[J", Cond.methodLink RX6 144 yX6_goesOn, Cond.instanceMethod yX6_goesOn, Cond.selects RX6 yX6_goesOn yX6_goesOn, Cond.code yX6_goesOn cX6_goesOn 10 none, Cond.methodLink RX6 131 yX6_endsBy, Cond.instanceMethod yX6_endsBy, Cond.selects RX6 yX6_endsBy yX6_endsBy, Cond.code yX6_endsBy cX6_endsBy 5 (some .boolean), Cond.methodLink RX6 90 yX6_stopsBy, Cond.static yX6_stopsBy, Cond.code yX6_stopsBy cX6_stopsBy 5 (some .boolean), Cond.methodLink RX6 135 yX6_isFamily, Cond.instanceMethod yX6_isFamily, Cond.selects RX6 yX6_isFamily yX6_isFamily]
def wsX6_met_r3 : List Cond := [Cond.code yX6_isFamily cX6_isFamily 7 none, Cond.fieldLink RX6 116 "TillOneOfSortModel" "saysOnes" "I", Cond.fieldLink RX6 119 "TillOneOfSortModel" "saysSort" "I", Cond.fieldLink RX6 122 "TillOneOfSortModel" "saysZeros" "I", Cond.methodLink RX6 139 yX6_twelfths, Cond.instanceMethod yX6_twelfths, Cond.selects RX6 yX6_twelfths yX6_twelfths, Cond.code yX6_twelfths cX6_twelfths 4 (some .int), Cond.methodLink RX6 166 yX6_part, Cond.static yX6_part, Cond.code yX6_part cX6_part 7 (some .long), Cond.methodLink RX6 151 yX6_common, Cond.static yX6_common, Cond.code yX6_common cX6_common 4 (some .long)]
def wsX6_met : List Cond := .code yX6_met cX6_met 3 (some .long) :: ((wsX6_met_r1 ++ (wsX6_met_r2 ++ wsX6_met_r3)) ++ wsX60)
def wsX6_says_r1 : List Cond := [Cond.fieldLink RX6 119 "TillOneOfSortModel" "saysSort" "I", Cond.fieldLink RX6 116 "TillOneOfSortModel" "saysOnes" "I", Cond.fieldLink RX6 122 "TillOneOfSortModel" "saysZeros" "I", Cond.fieldLink RX6 13 "TillOneOfSortModel" "s" "[I", Cond.fieldLink RX6 125 "TillOneOfSortModel" "says" "J", Cond.fieldLink RX6 94 "TillOneOfSortModel" "children" "J", Cond.fieldLink RX6 128 "TillOneOfSortModel" "eldest" "J", Cond.methodLink RX6 53 yX6_isIn, Cond.static yX6_isIn, Cond.initialized RX6, Cond.code yX6_isIn cX6_isIn 2 (some .boolean), Cond.methodLink RX6 155 yX6_isPart, Cond.static yX6_isPart, Cond.code yX6_isPart cX6_isPart 1 (some .boolean), Cond.methodLink RX6 158 yX6_refuseWide, Cond.instanceMethod yX6_refuseWide, Cond.selects RX6 yX6_refuseWide yX6_refuseWide, Cond.code yX6_refuseWide cX6_refuseWide 2 (some .long), Cond.constantLong RX6 32 (4000000000000000000), Cond.methodLink RX6 34 yX6_refuse, Cond.instanceMethod yX6_refuse, Cond.selects RX6 yX6_refuse yX6_refuse, Cond.code yX6_refuse cX6_refuse 2 (some .int), Cond.fieldLink RX6 7 "TillOneOfSortModel" "refusals" "[I"]
def wsX6_says_r2 : List Cond := [Cond.methodLink RX6 162 yX6_finds, Cond.instanceMethod yX6_finds, Cond.selects RX6 yX6_finds yX6_finds, Cond.code yX6_finds cX6_finds 3 none, Cond.fieldLink RX6 148 "TillOneOfSortModel" "whole" "J", Cond.constantLong RX6 142 (12), Cond.fieldLink RX6 98 "TillOneOfSortModel" "ones" "J", Cond.fieldLink RX6 101 "TillOneOfSortModel" "shares" "J", Cond.fieldLink RX6 104 "TillOneOfSortModel" "more" "J", Cond.fieldLink RX6 107 "TillOneOfSortModel" "alike" "J", Cond.fieldLink RX6 110 "TillOneOfSortModel" "meets" "J", Cond.fieldLink RX6 113 "TillOneOfSortModel" "pairs" "J", Cond.fieldLink RX6 28 "TillOneOfSortModel" "sized" "[J", Cond.methodLink RX6 144 yX6_goesOn, Cond.instanceMethod yX6_goesOn, Cond.selects RX6 yX6_goesOn yX6_goesOn, Cond.code yX6_goesOn cX6_goesOn 10 none, Cond.methodLink RX6 131 yX6_endsBy, Cond.instanceMethod yX6_endsBy, Cond.selects RX6 yX6_endsBy yX6_endsBy, Cond.code yX6_endsBy cX6_endsBy 5 (some .boolean), Cond.methodLink RX6 90 yX6_stopsBy, Cond.static yX6_stopsBy, Cond.code yX6_stopsBy cX6_stopsBy 5 (some .boolean)]
def wsX6_says_r3 : List Cond := [Cond.methodLink RX6 135 yX6_isFamily, Cond.instanceMethod yX6_isFamily, Cond.selects RX6 yX6_isFamily yX6_isFamily, Cond.code yX6_isFamily cX6_isFamily 7 none, Cond.methodLink RX6 139 yX6_twelfths, Cond.instanceMethod yX6_twelfths, Cond.selects RX6 yX6_twelfths yX6_twelfths, Cond.code yX6_twelfths cX6_twelfths 4 (some .int), Cond.methodLink RX6 166 yX6_part, Cond.static yX6_part, Cond.code yX6_part cX6_part 7 (some .long), Cond.methodLink RX6 151 yX6_common, Cond.static yX6_common, Cond.code yX6_common cX6_common 4 (some .long)]
def wsX6_says : List Cond := .code yX6_says cX6_says 7 (some .long) :: ((wsX6_says_r1 ++ (wsX6_says_r2 ++ wsX6_says_r3)) ++ wsX60)
def wsX6_triedBy : List Cond := .code yX6_triedBy cX6_triedBy 8 (some .long) :: ([.constantLong RX6 142 (12), .methodLink RX6 139 yX6_twelfths, .instanceMethod yX6_twelfths, .selects RX6 yX6_twelfths yX6_twelfths, .initialized RX6, .code yX6_twelfths cX6_twelfths 4 (some .int), .fieldLink RX6 13 "TillOneOfSortModel" "s" "[I", .methodLink RX6 172 yX6_triedBy, .instanceMethod yX6_triedBy, .selects RX6 yX6_triedBy yX6_triedBy] ++ wsX60)
def wsX6_trial_r1 : List Cond := [Cond.constantLong RX6 142 (12), Cond.methodLink RX6 155 yX6_isPart, Cond.static yX6_isPart, Cond.initialized RX6, Cond.code yX6_isPart cX6_isPart 1 (some .boolean), Cond.methodLink RX6 53 yX6_isIn, Cond.static yX6_isIn, Cond.code yX6_isIn cX6_isIn 2 (some .boolean), Cond.methodLink RX6 158 yX6_refuseWide, Cond.instanceMethod yX6_refuseWide, Cond.selects RX6 yX6_refuseWide yX6_refuseWide, Cond.code yX6_refuseWide cX6_refuseWide 2 (some .long), Cond.constantLong RX6 32 (4000000000000000000), Cond.methodLink RX6 34 yX6_refuse, Cond.instanceMethod yX6_refuse, Cond.selects RX6 yX6_refuse yX6_refuse, Cond.code yX6_refuse cX6_refuse 2 (some .int), Cond.fieldLink RX6 7 "TillOneOfSortModel" "refusals" "[I", Cond.methodLink RX6 172 yX6_triedBy, Cond.instanceMethod yX6_triedBy, Cond.selects RX6 yX6_triedBy yX6_triedBy, Cond.code yX6_triedBy cX6_triedBy 8 (some .long), Cond.methodLink RX6 139 yX6_twelfths, Cond.instanceMethod yX6_twelfths]
def wsX6_trial_r2 : List Cond := [Cond.selects RX6 yX6_twelfths yX6_twelfths, Cond.code yX6_twelfths cX6_twelfths 4 (some .int), Cond.fieldLink RX6 13 "TillOneOfSortModel" "s" "[I", Cond.methodLink RX6 166 yX6_part, Cond.static yX6_part, Cond.code yX6_part cX6_part 7 (some .long), Cond.methodLink RX6 151 yX6_common, Cond.static yX6_common, Cond.code yX6_common cX6_common 4 (some .long)]
def wsX6_trial : List Cond := .code yX6_trial cX6_trial 8 (some .long) :: ((wsX6_trial_r1 ++ wsX6_trial_r2) ++ wsX60)
def wsX6_stopOf : List Cond := .code yX6_stopOf cX6_stopOf 6 (some .int) :: ([.fieldLink RX6 176 "TillOneOfSortModel" "lastOnes" "I", .fieldLink RX6 179 "TillOneOfSortModel" "lastZeros" "I", .fieldLink RX6 182 "TillOneOfSortModel" "lastRun" "I", .methodLink RX6 131 yX6_endsBy, .instanceMethod yX6_endsBy, .selects RX6 yX6_endsBy yX6_endsBy, .initialized RX6, .code yX6_endsBy cX6_endsBy 5 (some .boolean), .fieldLink RX6 13 "TillOneOfSortModel" "s" "[I", .methodLink RX6 90 yX6_stopsBy, .static yX6_stopsBy, .code yX6_stopsBy cX6_stopsBy 5 (some .boolean)] ++ wsX60)
def wsX6_row : List Cond := .code yX6_row cX6_row 3 (some .int) :: ([.fieldLink RX6 185 "TillOneOfSortModel" "rowed" "I", .fieldLink RX6 188 "TillOneOfSortModel" "rowSorts" "I", .methodLink RX6 53 yX6_isIn, .static yX6_isIn, .initialized RX6, .code yX6_isIn cX6_isIn 2 (some .boolean), .methodLink RX6 34 yX6_refuse, .instanceMethod yX6_refuse, .selects RX6 yX6_refuse yX6_refuse, .code yX6_refuse cX6_refuse 2 (some .int), .fieldLink RX6 7 "TillOneOfSortModel" "refusals" "[I"] ++ wsX60)
def wsX6_gone_r1 : List Cond := [Cond.fieldLink RX6 13 "TillOneOfSortModel" "s" "[I", Cond.fieldLink RX6 185 "TillOneOfSortModel" "rowed" "I", Cond.fieldLink RX6 188 "TillOneOfSortModel" "rowSorts" "I", Cond.fieldLink RX6 176 "TillOneOfSortModel" "lastOnes" "I", Cond.fieldLink RX6 179 "TillOneOfSortModel" "lastZeros" "I", Cond.fieldLink RX6 182 "TillOneOfSortModel" "lastRun" "I", Cond.constantLong RX6 142 (12), Cond.methodLink RX6 155 yX6_isPart, Cond.static yX6_isPart, Cond.initialized RX6, Cond.code yX6_isPart cX6_isPart 1 (some .boolean), Cond.methodLink RX6 53 yX6_isIn, Cond.static yX6_isIn, Cond.code yX6_isIn cX6_isIn 2 (some .boolean), Cond.methodLink RX6 158 yX6_refuseWide, Cond.instanceMethod yX6_refuseWide, Cond.selects RX6 yX6_refuseWide yX6_refuseWide, Cond.code yX6_refuseWide cX6_refuseWide 2 (some .long), Cond.constantLong RX6 32 (4000000000000000000), Cond.methodLink RX6 34 yX6_refuse, Cond.instanceMethod yX6_refuse, Cond.selects RX6 yX6_refuse yX6_refuse, Cond.code yX6_refuse cX6_refuse 2 (some .int), Cond.fieldLink RX6 7 "TillOneOfSortModel" "refusals" "[I"]
def wsX6_gone_r2 : List Cond := [Cond.methodLink RX6 191 yX6_stopOf, Cond.instanceMethod yX6_stopOf, Cond.selects RX6 yX6_stopOf yX6_stopOf, Cond.code yX6_stopOf cX6_stopOf 6 (some .int), Cond.methodLink RX6 131 yX6_endsBy, Cond.instanceMethod yX6_endsBy, Cond.selects RX6 yX6_endsBy yX6_endsBy, Cond.code yX6_endsBy cX6_endsBy 5 (some .boolean), Cond.methodLink RX6 90 yX6_stopsBy, Cond.static yX6_stopsBy, Cond.code yX6_stopsBy cX6_stopsBy 5 (some .boolean), Cond.methodLink RX6 166 yX6_part, Cond.static yX6_part, Cond.code yX6_part cX6_part 7 (some .long), Cond.methodLink RX6 151 yX6_common, Cond.static yX6_common, Cond.code yX6_common cX6_common 4 (some .long), Cond.methodLink RX6 139 yX6_twelfths, Cond.instanceMethod yX6_twelfths, Cond.selects RX6 yX6_twelfths yX6_twelfths, Cond.code yX6_twelfths cX6_twelfths 4 (some .int)]
def wsX6_gone : List Cond := .code yX6_gone cX6_gone 5 (some .long) :: ((wsX6_gone_r1 ++ wsX6_gone_r2) ++ wsX60)
def wsX6_isMore : List Cond := .code yX6_isMore cX6_isMore 16 (some .boolean) :: ([.methodLink RX6 194 yX6_isMore, .static yX6_isMore, .initialized RX6])
def wsX6_shift_r1 : List Cond := [Cond.fieldLink RX6 98 "TillOneOfSortModel" "ones" "J", Cond.fieldLink RX6 94 "TillOneOfSortModel" "children" "J", Cond.methodLink RX6 53 yX6_isIn, Cond.static yX6_isIn, Cond.initialized RX6, Cond.code yX6_isIn cX6_isIn 2 (some .boolean), Cond.methodLink RX6 34 yX6_refuse, Cond.instanceMethod yX6_refuse, Cond.selects RX6 yX6_refuse yX6_refuse, Cond.code yX6_refuse cX6_refuse 2 (some .int), Cond.fieldLink RX6 7 "TillOneOfSortModel" "refusals" "[I", Cond.methodLink RX6 162 yX6_finds, Cond.instanceMethod yX6_finds, Cond.selects RX6 yX6_finds yX6_finds, Cond.code yX6_finds cX6_finds 3 none, Cond.fieldLink RX6 148 "TillOneOfSortModel" "whole" "J", Cond.fieldLink RX6 13 "TillOneOfSortModel" "s" "[I", Cond.constantLong RX6 142 (12), Cond.fieldLink RX6 101 "TillOneOfSortModel" "shares" "J", Cond.fieldLink RX6 104 "TillOneOfSortModel" "more" "J", Cond.fieldLink RX6 107 "TillOneOfSortModel" "alike" "J", Cond.fieldLink RX6 110 "TillOneOfSortModel" "meets" "J", Cond.fieldLink RX6 113 "TillOneOfSortModel" "pairs" "J", Cond.fieldLink RX6 125 "TillOneOfSortModel" "says" "J"]
def wsX6_shift_r2 : List Cond := [Cond.fieldLink RX6 128 "TillOneOfSortModel" "eldest" "J", Cond.fieldLink RX6 28 "TillOneOfSortModel" "sized" "[J", Cond.methodLink RX6 144 yX6_goesOn, Cond.instanceMethod yX6_goesOn, Cond.selects RX6 yX6_goesOn yX6_goesOn, Cond.code yX6_goesOn cX6_goesOn 10 none, Cond.methodLink RX6 131 yX6_endsBy, Cond.instanceMethod yX6_endsBy, Cond.selects RX6 yX6_endsBy yX6_endsBy, Cond.code yX6_endsBy cX6_endsBy 5 (some .boolean), Cond.methodLink RX6 90 yX6_stopsBy, Cond.static yX6_stopsBy, Cond.code yX6_stopsBy cX6_stopsBy 5 (some .boolean), Cond.methodLink RX6 135 yX6_isFamily, Cond.instanceMethod yX6_isFamily, Cond.selects RX6 yX6_isFamily yX6_isFamily, Cond.code yX6_isFamily cX6_isFamily 7 none, Cond.fieldLink RX6 116 "TillOneOfSortModel" "saysOnes" "I", Cond.fieldLink RX6 119 "TillOneOfSortModel" "saysSort" "I", Cond.fieldLink RX6 122 "TillOneOfSortModel" "saysZeros" "I", Cond.methodLink RX6 139 yX6_twelfths, Cond.instanceMethod yX6_twelfths, Cond.selects RX6 yX6_twelfths yX6_twelfths, Cond.code yX6_twelfths cX6_twelfths 4 (some .int)]
def wsX6_shift_r3 : List Cond := [Cond.methodLink RX6 166 yX6_part, Cond.static yX6_part, Cond.code yX6_part cX6_part 7 (some .long), Cond.methodLink RX6 151 yX6_common, Cond.static yX6_common, Cond.code yX6_common cX6_common 4 (some .long), Cond.methodLink RX6 194 yX6_isMore, Cond.static yX6_isMore, Cond.code yX6_isMore cX6_isMore 16 (some .boolean)]
def wsX6_shift : List Cond := .code yX6_shift cX6_shift 13 (some .int) :: ((wsX6_shift_r1 ++ (wsX6_shift_r2 ++ wsX6_shift_r3)) ++ wsX60)
def wsX6_manyOf : List Cond := .code yX6_manyOf cX6_manyOf 2 (some .int) :: ([.fieldLink RX6 13 "TillOneOfSortModel" "s" "[I"] ++ wsX60)
def wsX6_sortsOf : List Cond := .code yX6_sortsOf cX6_sortsOf 2 (some .int) :: ([.fieldLink RX6 13 "TillOneOfSortModel" "s" "[I"] ++ wsX60)
def wsX6_fits_r1 : List Cond := [Cond.fieldLink RX6 13 "TillOneOfSortModel" "s" "[I", Cond.methodLink RX6 53 yX6_isIn, Cond.static yX6_isIn, Cond.initialized RX6, Cond.code yX6_isIn cX6_isIn 2 (some .boolean), Cond.methodLink RX6 34 yX6_refuse, Cond.instanceMethod yX6_refuse, Cond.selects RX6 yX6_refuse yX6_refuse, Cond.code yX6_refuse cX6_refuse 2 (some .int), Cond.fieldLink RX6 7 "TillOneOfSortModel" "refusals" "[I", Cond.methodLink RX6 198 yX6_manyOf, Cond.instanceMethod yX6_manyOf, Cond.selects RX6 yX6_manyOf yX6_manyOf, Cond.code yX6_manyOf cX6_manyOf 2 (some .int), Cond.methodLink RX6 201 yX6_sortsOf, Cond.instanceMethod yX6_sortsOf, Cond.selects RX6 yX6_sortsOf yX6_sortsOf, Cond.code yX6_sortsOf cX6_sortsOf 2 (some .int), Cond.methodLink RX6 191 yX6_stopOf, Cond.instanceMethod yX6_stopOf, Cond.selects RX6 yX6_stopOf yX6_stopOf, Cond.code yX6_stopOf cX6_stopOf 6 (some .int), Cond.fieldLink RX6 176 "TillOneOfSortModel" "lastOnes" "I", Cond.fieldLink RX6 179 "TillOneOfSortModel" "lastZeros" "I"]
def wsX6_fits_r2 : List Cond := [Cond.fieldLink RX6 182 "TillOneOfSortModel" "lastRun" "I", Cond.methodLink RX6 131 yX6_endsBy, Cond.instanceMethod yX6_endsBy, Cond.selects RX6 yX6_endsBy yX6_endsBy, Cond.code yX6_endsBy cX6_endsBy 5 (some .boolean), Cond.methodLink RX6 90 yX6_stopsBy, Cond.static yX6_stopsBy, Cond.code yX6_stopsBy cX6_stopsBy 5 (some .boolean)]
def wsX6_fits : List Cond := .code yX6_fits cX6_fits 7 (some .int) :: ((wsX6_fits_r1 ++ wsX6_fits_r2) ++ wsX60)
def wsX6_judge : List Cond := .code yX6_judge cX6_judge 3 (some .int) :: ([.fieldLink RX6 185 "TillOneOfSortModel" "rowed" "I", .fieldLink RX6 13 "TillOneOfSortModel" "s" "[I", .fieldLink RX6 188 "TillOneOfSortModel" "rowSorts" "I", .methodLink RX6 191 yX6_stopOf, .instanceMethod yX6_stopOf, .selects RX6 yX6_stopOf yX6_stopOf, .initialized RX6, .code yX6_stopOf cX6_stopOf 6 (some .int), .fieldLink RX6 176 "TillOneOfSortModel" "lastOnes" "I", .fieldLink RX6 179 "TillOneOfSortModel" "lastZeros" "I", .fieldLink RX6 182 "TillOneOfSortModel" "lastRun" "I", .methodLink RX6 131 yX6_endsBy, .instanceMethod yX6_endsBy, .selects RX6 yX6_endsBy yX6_endsBy, .code yX6_endsBy cX6_endsBy 5 (some .boolean), .methodLink RX6 90 yX6_stopsBy, .static yX6_stopsBy, .code yX6_stopsBy cX6_stopsBy 5 (some .boolean)] ++ wsX60)
def wsX6_seen : List Cond := .code yX6_seen cX6_seen 4 (some .int) :: ([.fieldLink RX6 13 "TillOneOfSortModel" "s" "[I", .methodLink RX6 53 yX6_isIn, .static yX6_isIn, .initialized RX6, .code yX6_isIn cX6_isIn 2 (some .boolean), .methodLink RX6 34 yX6_refuse, .instanceMethod yX6_refuse, .selects RX6 yX6_refuse yX6_refuse, .code yX6_refuse cX6_refuse 2 (some .int), .fieldLink RX6 7 "TillOneOfSortModel" "refusals" "[I", .methodLink RX6 198 yX6_manyOf, .instanceMethod yX6_manyOf, .selects RX6 yX6_manyOf yX6_manyOf, .code yX6_manyOf cX6_manyOf 2 (some .int), .methodLink RX6 201 yX6_sortsOf, .instanceMethod yX6_sortsOf, .selects RX6 yX6_sortsOf yX6_sortsOf, .code yX6_sortsOf cX6_sortsOf 2 (some .int)] ++ wsX60)
def wsX6_cheats : List Cond := .code yX6_cheats cX6_cheats 4 (some .int) :: ([.fieldLink RX6 13 "TillOneOfSortModel" "s" "[I", .methodLink RX6 198 yX6_manyOf, .instanceMethod yX6_manyOf, .selects RX6 yX6_manyOf yX6_manyOf, .initialized RX6, .code yX6_manyOf cX6_manyOf 2 (some .int), .methodLink RX6 201 yX6_sortsOf, .instanceMethod yX6_sortsOf, .selects RX6 yX6_sortsOf yX6_sortsOf, .code yX6_sortsOf cX6_sortsOf 2 (some .int), .methodLink RX6 191 yX6_stopOf, .instanceMethod yX6_stopOf, .selects RX6 yX6_stopOf yX6_stopOf, .code yX6_stopOf cX6_stopOf 6 (some .int), .fieldLink RX6 176 "TillOneOfSortModel" "lastOnes" "I", .fieldLink RX6 179 "TillOneOfSortModel" "lastZeros" "I", .fieldLink RX6 182 "TillOneOfSortModel" "lastRun" "I", .methodLink RX6 131 yX6_endsBy, .instanceMethod yX6_endsBy, .selects RX6 yX6_endsBy yX6_endsBy, .code yX6_endsBy cX6_endsBy 5 (some .boolean), .methodLink RX6 90 yX6_stopsBy, .static yX6_stopsBy, .code yX6_stopsBy cX6_stopsBy 5 (some .boolean)] ++ wsX60)
def wsX6_drawn : List Cond := .code yX6_drawn cX6_drawn 2 (some .int) :: ([.fieldLink RX6 204 "TillOneOfSortModel" "seed" "I", .constant RX6 207 (1664525), .constant RX6 208 (1013904223), .constant RX6 209 (2147483647)] ++ wsX60)
def wsX6_lots_r1 : List Cond := [Cond.fieldLink RX6 204 "TillOneOfSortModel" "seed" "I", Cond.fieldLink RX6 13 "TillOneOfSortModel" "s" "[I", Cond.methodLink RX6 38 yX6_within, Cond.static yX6_within, Cond.initialized RX6, Cond.code yX6_within cX6_within 3 (some .int), Cond.methodLink RX6 53 yX6_isIn, Cond.static yX6_isIn, Cond.code yX6_isIn cX6_isIn 2 (some .boolean), Cond.methodLink RX6 34 yX6_refuse, Cond.instanceMethod yX6_refuse, Cond.selects RX6 yX6_refuse yX6_refuse, Cond.code yX6_refuse cX6_refuse 2 (some .int), Cond.fieldLink RX6 7 "TillOneOfSortModel" "refusals" "[I", Cond.methodLink RX6 210 yX6_drawn, Cond.instanceMethod yX6_drawn, Cond.selects RX6 yX6_drawn yX6_drawn, Cond.code yX6_drawn cX6_drawn 2 (some .int), Cond.constant RX6 207 (1664525), Cond.constant RX6 208 (1013904223), Cond.constant RX6 209 (2147483647), Cond.methodLink RX6 139 yX6_twelfths, Cond.instanceMethod yX6_twelfths, Cond.selects RX6 yX6_twelfths yX6_twelfths]
def wsX6_lots_r2 : List Cond := [Cond.code yX6_twelfths cX6_twelfths 4 (some .int), Cond.methodLink RX6 131 yX6_endsBy, Cond.instanceMethod yX6_endsBy, Cond.selects RX6 yX6_endsBy yX6_endsBy, Cond.code yX6_endsBy cX6_endsBy 5 (some .boolean), Cond.methodLink RX6 90 yX6_stopsBy, Cond.static yX6_stopsBy, Cond.code yX6_stopsBy cX6_stopsBy 5 (some .boolean)]
def wsX6_lots : List Cond := .code yX6_lots cX6_lots 11 (some .int) :: ((wsX6_lots_r1 ++ wsX6_lots_r2) ++ wsX60)
def wsX6_image : List Cond := .code yX6_image cX6_image 1 (some .int) :: ([.fieldLink RX6 13 "TillOneOfSortModel" "s" "[I", .fieldLink RX6 16 "TillOneOfSortModel" "image" "[I", .fieldLink RX6 213 "TillOneOfSortModel" "isImage" "Z", .methodLink RX6 80 yX6_lays, .static yX6_lays, .initialized RX6, .code yX6_lays cX6_lays 3 none] ++ wsX60)
def wsX6_on : List Cond := .code yX6_on cX6_on 1 (some .int) :: ([.fieldLink RX6 213 "TillOneOfSortModel" "isImage" "Z", .fieldLink RX6 16 "TillOneOfSortModel" "image" "[I", .fieldLink RX6 13 "TillOneOfSortModel" "s" "[I", .methodLink RX6 34 yX6_refuse, .instanceMethod yX6_refuse, .selects RX6 yX6_refuse yX6_refuse, .initialized RX6, .code yX6_refuse cX6_refuse 2 (some .int), .fieldLink RX6 7 "TillOneOfSortModel" "refusals" "[I", .methodLink RX6 80 yX6_lays, .static yX6_lays, .code yX6_lays cX6_lays 3 none] ++ wsX60)
def wsX6_count : List Cond := .code yX6_count cX6_count 2 (some .int) :: ([.fieldLink RX6 7 "TillOneOfSortModel" "refusals" "[I", .fieldLink RX6 13 "TillOneOfSortModel" "s" "[I", .fieldLink RX6 185 "TillOneOfSortModel" "rowed" "I", .fieldLink RX6 42 "TillOneOfSortModel" "taped" "I", .methodLink RX6 53 yX6_isIn, .static yX6_isIn, .initialized RX6, .code yX6_isIn cX6_isIn 2 (some .boolean)] ++ wsX60)
def wsJ9_max_7cf53 : List Cond := .code yJ9_max_7cf53 cJ9_max_7cf53 2 (some .int) :: ([])
def wsJ9_min_7cf53 : List Cond := .code yJ9_min_7cf53 cJ9_min_7cf53 2 (some .int) :: ([])
def wsL_law_r1 : List Cond := [Cond.classLink RL 7 RX5, Cond.instantiable RX5 10, Cond.initialized RX5, Cond.classLink RL 10 RX6, Cond.instantiable RX6 29, Cond.initialized RX6, Cond.methodLink RL 9 yX5_init, Cond.instanceMethod yX5_init, Cond.code yX5_init cX5_init 3 none, Cond.methodLink RX5 1 objectInit, Cond.instanceMethod objectInit, Cond.code objectInit ⟨#[0xb1]⟩ 1 none, Cond.classLink RX5 7 RX3, Cond.instantiable RX3 8, Cond.initialized RX3, Cond.fieldLink RX5 10 "TillOneOfSort" "told" "LTillOneOfSort$Told;", Cond.fieldLink RX5 16 "TillOneOfSort" "draft" "LTillOneOfSort$Told;", Cond.fieldLink RX5 19 "TillOneOfSort" "kept" "LTillOneOfSort$Told;", Cond.classLink RX5 22 RX2, Cond.instantiable RX2 2, Cond.initialized RX2, Cond.fieldLink RX5 25 "TillOneOfSort" "text" "LTillOneOfSort$Text;", Cond.arrayClass .int, Cond.fieldLink RX5 29 "TillOneOfSort" "refusals" "[I"]
def wsL_law_r2 : List Cond := [Cond.classLink RX5 33 RX1, Cond.fieldLink RX5 35 "TillOneOfSort" "tallies" "[LTillOneOfSort$Tally;", Cond.classLink RX5 39 RX4, Cond.instantiable RX4 2, Cond.initialized RX4, Cond.instantiable RX1 7, Cond.initialized RX1, Cond.fieldLink RX5 45 "TillOneOfSort" "spare" "LTillOneOfSort$Tally;", Cond.instanceMethod yX3_init, Cond.code yX3_init cX3_init 1 none, Cond.methodLink RX3 3 objectInit, Cond.fieldLink RX3 9 "TillOneOfSort$Told" "kind" "I", Cond.fieldLink RX3 15 "TillOneOfSort$Told" "figure" "I", Cond.fieldLink RX3 18 "TillOneOfSort$Told" "most" "I", Cond.fieldLink RX3 21 "TillOneOfSort$Told" "chance" "I", Cond.fieldLink RX3 24 "TillOneOfSort$Told" "lengths" "[I", Cond.fieldLink RX3 28 "TillOneOfSort$Told" "sorts" "[I", Cond.instanceMethod yX2_init, Cond.code yX2_init cX2_init 1 none, Cond.methodLink RX2 3 objectInit, Cond.fieldLink RX2 9 "TillOneOfSort$Text" "letters" "[I", Cond.instanceMethod yX4_init, Cond.code yX4_init cX4_init 1 none, Cond.methodLink RX4 3 objectInit]
def wsL_law_r3 : List Cond := [Cond.classLink RX4 9 RX0, Cond.instantiable RX0 1, Cond.initialized RX0, Cond.fieldLink RX4 12 "TillOneOfSort$Walk" "here" "LTillOneOfSort$Cells;", Cond.fieldLink RX4 18 "TillOneOfSort$Walk" "next" "LTillOneOfSort$Cells;", Cond.instanceMethod yX0_init, Cond.code yX0_init cX0_init 1 none, Cond.methodLink RX0 3 objectInit, Cond.arrayClass .long, Cond.fieldLink RX0 11 "TillOneOfSort$Cells" "cells" "[J", Cond.methodLink RX5 42 yX1_init, Cond.instanceMethod yX1_init, Cond.code yX1_init cX1_init 2 none, Cond.methodLink RX1 3 objectInit, Cond.classLink RX1 9 RX0, Cond.fieldLink RX1 12 "TillOneOfSort$Tally" "ends" "LTillOneOfSort$Cells;", Cond.fieldLink RX1 18 "TillOneOfSort$Tally" "kind" "I", Cond.fieldLink RX1 22 "TillOneOfSort$Tally" "walk" "LTillOneOfSort$Walk;", Cond.methodLink RL 12 yX6_init, Cond.instanceMethod yX6_init, Cond.code yX6_init cX6_init 1 none, Cond.methodLink RX6 1 objectInit, Cond.fieldLink RX6 7 "TillOneOfSortModel" "refusals" "[I", Cond.fieldLink RX6 13 "TillOneOfSortModel" "s" "[I"]
def wsL_law_r4 : List Cond := [Cond.fieldLink RX6 16 "TillOneOfSortModel" "image" "[I", Cond.fieldLink RX6 19 "TillOneOfSortModel" "read" "[I", Cond.fieldLink RX6 22 "TillOneOfSortModel" "tape" "[I", Cond.fieldLink RX6 25 "TillOneOfSortModel" "told" "[I", Cond.fieldLink RX6 28 "TillOneOfSortModel" "sized" "[J", Cond.methodLink RL 13 yX5_letter, Cond.instanceMethod yX5_letter, Cond.selects RX5 yX5_letter yX5_letter, Cond.code yX5_letter cX5_letter 2 (some .int), Cond.methodLink RX5 49 yX5_refuse, Cond.instanceMethod yX5_refuse, Cond.selects RX5 yX5_refuse yX5_refuse, Cond.code yX5_refuse cX5_refuse 3 (some .int), Cond.methodLink RX5 57 yX2_append, Cond.instanceMethod yX2_append, Cond.selects RX2 yX2_append yX2_append, Cond.code yX2_append cX2_append 2 none, Cond.fieldLink RX2 15 "TillOneOfSort$Text" "length" "I", Cond.methodLink RL 17 yX6_letter, Cond.instanceMethod yX6_letter, Cond.selects RX6 yX6_letter yX6_letter, Cond.code yX6_letter cX6_letter 3 (some .int), Cond.fieldLink RX6 42 "TillOneOfSortModel" "taped" "I", Cond.methodLink RX6 38 yX6_within]
def wsL_law_r5 : List Cond := [Cond.static yX6_within, Cond.code yX6_within cX6_within 3 (some .int), Cond.methodLink RX6 34 yX6_refuse, Cond.instanceMethod yX6_refuse, Cond.selects RX6 yX6_refuse yX6_refuse, Cond.code yX6_refuse cX6_refuse 2 (some .int), Cond.methodLink RL 18 yX5_land, Cond.instanceMethod yX5_land, Cond.selects RX5 yX5_land yX5_land, Cond.code yX5_land cX5_land 3 (some .int), Cond.methodLink RX5 61 yX2_firstFault, Cond.instanceMethod yX2_firstFault, Cond.selects RX2 yX2_firstFault yX2_firstFault, Cond.code yX2_firstFault cX2_firstFault 4 (some .int), Cond.methodLink RX2 19 yX2_endOfStatement, Cond.instanceMethod yX2_endOfStatement, Cond.selects RX2 yX2_endOfStatement yX2_endOfStatement, Cond.code yX2_endOfStatement cX2_endOfStatement 3 (some .int), Cond.methodLink RX2 23 yX2_at, Cond.instanceMethod yX2_at, Cond.selects RX2 yX2_at yX2_at, Cond.code yX2_at cX2_at 2 (some .int), Cond.methodLink RX2 26 yX2_kindAt, Cond.instanceMethod yX2_kindAt]
def wsL_law_r6 : List Cond := [Cond.selects RX2 yX2_kindAt yX2_kindAt, Cond.code yX2_kindAt cX2_kindAt 2 (some .int), Cond.methodLink RX2 29 yX2_endOfDigits, Cond.instanceMethod yX2_endOfDigits, Cond.selects RX2 yX2_endOfDigits yX2_endOfDigits, Cond.code yX2_endOfDigits cX2_endOfDigits 5 (some .int), Cond.methodLink RX2 33 yX2_isSign, Cond.static yX2_isSign, Cond.code yX2_isSign cX2_isSign 1 (some .boolean), Cond.methodLink RX5 65 yX5_tellText, Cond.instanceMethod yX5_tellText, Cond.selects RX5 yX5_tellText yX5_tellText, Cond.code yX5_tellText cX5_tellText 4 (some .int), Cond.methodLink RX5 168 yX3_copy, Cond.instanceMethod yX3_copy, Cond.selects RX3 yX3_copy yX3_copy, Cond.code yX3_copy cX3_copy 3 none, Cond.fieldLink RX3 31 "TillOneOfSort$Told" "lean" "I", Cond.fieldLink RX3 34 "TillOneOfSort$Told" "families" "I", Cond.methodLink RX3 37 yX3_lengthOf, Cond.instanceMethod yX3_lengthOf, Cond.selects RX3 yX3_lengthOf yX3_lengthOf, Cond.code yX3_lengthOf cX3_lengthOf 2 (some .int), Cond.methodLink RX3 41 yX3_sortsOf]
def wsL_law_r7 : List Cond := [Cond.instanceMethod yX3_sortsOf, Cond.selects RX3 yX3_sortsOf yX3_sortsOf, Cond.code yX3_sortsOf cX3_sortsOf 2 (some .int), Cond.methodLink RX5 178 yX2_endOfStatement, Cond.methodLink RX5 181 yX3_take, Cond.instanceMethod yX3_take, Cond.selects RX3 yX3_take yX3_take, Cond.code yX3_take cX3_take 7 (some .boolean), Cond.methodLink RX3 50 yX2_at, Cond.methodLink RX3 55 yX2_kindAt, Cond.methodLink RX3 58 yX2_numberAt, Cond.instanceMethod yX2_numberAt, Cond.selects RX2 yX2_numberAt yX2_numberAt, Cond.code yX2_numberAt cX2_numberAt 5 (some .int), Cond.methodLink RX3 62 yX3_takeLaw, Cond.instanceMethod yX3_takeLaw, Cond.selects RX3 yX3_takeLaw yX3_takeLaw, Cond.code yX3_takeLaw cX3_takeLaw 3 (some .boolean), Cond.methodLink RX3 66 yX3_tellNumber, Cond.instanceMethod yX3_tellNumber, Cond.selects RX3 yX3_tellNumber yX3_tellNumber, Cond.code yX3_tellNumber cX3_tellNumber 3 (some .boolean), Cond.methodLink RX3 44 yX3_least, Cond.static yX3_least]
def wsL_law_r8 : List Cond := [Cond.code yX3_least cX3_least 1 (some .int), Cond.methodLink RX3 47 yX3_greatest, Cond.static yX3_greatest, Cond.code yX3_greatest cX3_greatest 1 (some .int), Cond.methodLink RX3 69 yX3_takeFamily, Cond.instanceMethod yX3_takeFamily, Cond.selects RX3 yX3_takeFamily yX3_takeFamily, Cond.code yX3_takeFamily cX3_takeFamily 6 (some .boolean), Cond.methodLink RL 22 yX6_land, Cond.instanceMethod yX6_land, Cond.selects RX6 yX6_land yX6_land, Cond.code yX6_land cX6_land 2 (some .int), Cond.methodLink RX6 87 yX6_reads, Cond.instanceMethod yX6_reads, Cond.selects RX6 yX6_reads yX6_reads, Cond.code yX6_reads cX6_reads 5 (some .int), Cond.fieldLink RX6 46 "TillOneOfSortModel" "at" "I", Cond.methodLink RX6 77 yX6_readsStatement, Cond.instanceMethod yX6_readsStatement, Cond.selects RX6 yX6_readsStatement yX6_readsStatement, Cond.code yX6_readsStatement cX6_readsStatement 3 (some .boolean), Cond.methodLink RX6 49 yX6_sign, Cond.instanceMethod yX6_sign, Cond.selects RX6 yX6_sign yX6_sign]
def wsL_law_r9 : List Cond := [Cond.code yX6_sign cX6_sign 1 (some .int), Cond.methodLink RX6 63 yX6_readsKind, Cond.instanceMethod yX6_readsKind, Cond.selects RX6 yX6_readsKind yX6_readsKind, Cond.code yX6_readsKind cX6_readsKind 1 (some .boolean), Cond.methodLink RX6 57 yX6_kindOf, Cond.static yX6_kindOf, Cond.code yX6_kindOf cX6_kindOf 1 (some .int), Cond.methodLink RX6 60 yX6_readsNumber, Cond.instanceMethod yX6_readsNumber, Cond.selects RX6 yX6_readsNumber yX6_readsNumber, Cond.code yX6_readsNumber cX6_readsNumber 4 (some .boolean), Cond.methodLink RX6 53 yX6_isIn, Cond.static yX6_isIn, Cond.code yX6_isIn cX6_isIn 2 (some .boolean), Cond.methodLink RX6 67 yX6_readsLean, Cond.instanceMethod yX6_readsLean, Cond.selects RX6 yX6_readsLean yX6_readsLean, Cond.code yX6_readsLean cX6_readsLean 2 (some .boolean), Cond.methodLink RX6 70 yX6_readsFamily, Cond.instanceMethod yX6_readsFamily, Cond.selects RX6 yX6_readsFamily yX6_readsFamily, Cond.code yX6_readsFamily cX6_readsFamily 1 (some .boolean), Cond.methodLink RX6 73 yX6_takes]
def wsL_law_r10 : List Cond := [Cond.instanceMethod yX6_takes, Cond.selects RX6 yX6_takes yX6_takes, Cond.code yX6_takes cX6_takes 2 (some .boolean), Cond.methodLink RX6 80 yX6_lays, Cond.static yX6_lays, Cond.code yX6_lays cX6_lays 3 none, Cond.methodLink RX6 84 yX6_comes, Cond.instanceMethod yX6_comes, Cond.selects RX6 yX6_comes yX6_comes, Cond.code yX6_comes cX6_comes 3 (some .boolean), Cond.methodLink RL 23 yX5_law, Cond.instanceMethod yX5_law, Cond.selects RX5 yX5_law yX5_law, Cond.code yX5_law cX5_law 4 (some .int), Cond.methodLink RL 27 yX6_law, Cond.instanceMethod yX6_law, Cond.selects RX6 yX6_law yX6_law, Cond.code yX6_law cX6_law 5 (some .int), Cond.methodLink RL 28 yX5_set, Cond.instanceMethod yX5_set, Cond.selects RX5 yX5_set yX5_set, Cond.code yX5_set cX5_set 4 (some .int), Cond.methodLink RX5 74 yX3_least, Cond.methodLink RX5 77 yX3_greatest]
def wsL_law_r11 : List Cond := [Cond.methodLink RX5 80 yX3_number, Cond.instanceMethod yX3_number, Cond.selects RX3 yX3_number yX3_number, Cond.code yX3_number cX3_number 2 (some .int), Cond.methodLink RX5 83 yX3_tellNumber, Cond.methodLink RL 31 yX6_set, Cond.instanceMethod yX6_set, Cond.selects RX6 yX6_set yX6_set, Cond.code yX6_set cX6_set 5 (some .int), Cond.methodLink RL 32 yX5_stops, Cond.instanceMethod yX5_stops, Cond.selects RX5 yX5_stops yX5_stops, Cond.code yX5_stops cX5_stops 4 (some .int), Cond.methodLink RX5 87 yX5_lawStops, Cond.static yX5_lawStops, Cond.code yX5_lawStops cX5_lawStops 5 (some .boolean), Cond.methodLink RL 36 yX6_stops, Cond.instanceMethod yX6_stops, Cond.selects RX6 yX6_stops yX6_stops, Cond.code yX6_stops cX6_stops 5 (some .int), Cond.methodLink RX6 90 yX6_stopsBy, Cond.static yX6_stopsBy, Cond.code yX6_stopsBy cX6_stopsBy 5 (some .boolean), Cond.methodLink RL 37 yX5_mean]
def wsL_law_r12 : List Cond := [Cond.instanceMethod yX5_mean, Cond.selects RX5 yX5_mean yX5_mean, Cond.code yX5_mean cX5_mean 3 (some .long), Cond.constantLong RX5 107 (61917364224), Cond.methodLink RX5 91 yX5_isNoSort, Cond.static yX5_isNoSort, Cond.code yX5_isNoSort cX5_isNoSort 1 (some .boolean), Cond.methodLink RX5 95 yX5_refuseLong, Cond.instanceMethod yX5_refuseLong, Cond.selects RX5 yX5_refuseLong yX5_refuseLong, Cond.code yX5_refuseLong cX5_refuseLong 2 (some .long), Cond.constantLong RX5 176 (4000000000000000000), Cond.methodLink RX5 99 yX5_tallyNow, Cond.instanceMethod yX5_tallyNow, Cond.selects RX5 yX5_tallyNow yX5_tallyNow, Cond.code yX5_tallyNow cX5_tallyNow 1 (some (.object "TillOneOfSort$Tally")), Cond.methodLink RX5 185 yX5_tallyOf, Cond.instanceMethod yX5_tallyOf, Cond.selects RX5 yX5_tallyOf yX5_tallyOf, Cond.code yX5_tallyOf cX5_tallyOf 3 (some (.object "TillOneOfSort$Tally")), Cond.methodLink RX5 128 yX1_retell, Cond.instanceMethod yX1_retell, Cond.selects RX1 yX1_retell yX1_retell, Cond.code yX1_retell cX1_retell 9 none]
def wsL_law_r13 : List Cond := [Cond.fieldLink RX1 26 "TillOneOfSort$Tally" "figure" "I", Cond.fieldLink RX1 29 "TillOneOfSort$Tally" "most" "I", Cond.fieldLink RX1 32 "TillOneOfSort$Tally" "chance" "I", Cond.fieldLink RX1 35 "TillOneOfSort$Tally" "lean" "I", Cond.methodLink RX1 38 yX0_clear, Cond.instanceMethod yX0_clear, Cond.selects RX0 yX0_clear yX0_clear, Cond.code yX0_clear cX0_clear 1 none, Cond.methodLink RX0 19 yJ7_fill_d0a16, Cond.static yJ7_fill_d0a16, Cond.initialized RJ7, Cond.code yJ7_fill_d0a16 cJ7_fill_d0a16 5 none, Cond.methodLink RX1 41 yX4_begin, Cond.instanceMethod yX4_begin, Cond.selects RX4 yX4_begin yX4_begin, Cond.code yX4_begin cX4_begin 2 none, Cond.methodLink RX4 21 yX0_clear, Cond.methodLink RX4 24 yX0_add, Cond.instanceMethod yX0_add, Cond.selects RX0 yX0_add yX0_add, Cond.code yX0_add cX0_add 7 none, Cond.methodLink RX0 15 yX0_placeOf, Cond.static yX0_placeOf, Cond.code yX0_placeOf cX0_placeOf 3 (some .int)]
def wsL_law_r14 : List Cond := [Cond.methodLink RX1 47 yX1_goOn, Cond.instanceMethod yX1_goOn, Cond.selects RX1 yX1_goOn yX1_goOn, Cond.code yX1_goOn cX1_goOn 10 none, Cond.methodLink RX1 57 yX0_at, Cond.instanceMethod yX0_at, Cond.selects RX0 yX0_at yX0_at, Cond.code yX0_at cX0_at 5 (some .long), Cond.methodLink RX1 69 yX0_add, Cond.static yX5_chanceOfOne, Cond.code yX5_chanceOfOne cX5_chanceOfOne 5 (some .int), Cond.methodLink RX5 211 Lib.Math.min.name, Cond.static Lib.Math.min.name, Cond.initialized "java/lang/Math", Cond.code Lib.Math.min.name Lib.Math.min.code 2 (some .int), Cond.methodLink RX5 216 Lib.Math.max.name, Cond.static Lib.Math.max.name, Cond.code Lib.Math.max.name Lib.Math.max.code 2 (some .int), Cond.methodLink RX1 51 yX4_stepOn, Cond.instanceMethod yX4_stepOn, Cond.selects RX4 yX4_stepOn yX4_stepOn, Cond.code yX4_stepOn cX4_stepOn 2 none, Cond.methodLink RX5 103 yX1_sum, Cond.instanceMethod yX1_sum]
def wsL_law_r15 : List Cond := [Cond.selects RX1 yX1_sum yX1_sum, Cond.code yX1_sum cX1_sum 9 (some .long), Cond.methodLink RX1 80 yX1_families, Cond.instanceMethod yX1_families, Cond.selects RX1 yX1_families yX1_families, Cond.code yX1_families cX1_families 3 (some .long), Cond.methodLink RX1 84 yX1_measured, Cond.static yX1_measured, Cond.code yX1_measured cX1_measured 5 (some .long), Cond.methodLink RX5 109 yX5_fraction, Cond.static yX5_fraction, Cond.code yX5_fraction cX5_fraction 7 (some .long), Cond.methodLink RX5 219 yX5_greatestDivisor, Cond.static yX5_greatestDivisor, Cond.code yX5_greatestDivisor cX5_greatestDivisor 11 (some .long), Cond.methodLink RL 41 yX6_mean, Cond.instanceMethod yX6_mean, Cond.selects RX6 yX6_mean yX6_mean, Cond.code yX6_mean cX6_mean 3 (some .long), Cond.fieldLink RX6 94 "TillOneOfSortModel" "children" "J", Cond.fieldLink RX6 98 "TillOneOfSortModel" "ones" "J", Cond.fieldLink RX6 148 "TillOneOfSortModel" "whole" "J", Cond.methodLink RX6 155 yX6_isPart, Cond.static yX6_isPart]
def wsL_law_r16 : List Cond := [Cond.code yX6_isPart cX6_isPart 1 (some .boolean), Cond.methodLink RX6 158 yX6_refuseWide, Cond.instanceMethod yX6_refuseWide, Cond.selects RX6 yX6_refuseWide yX6_refuseWide, Cond.code yX6_refuseWide cX6_refuseWide 2 (some .long), Cond.constantLong RX6 32 (4000000000000000000), Cond.methodLink RX6 162 yX6_finds, Cond.instanceMethod yX6_finds, Cond.selects RX6 yX6_finds yX6_finds, Cond.code yX6_finds cX6_finds 3 none, Cond.constantLong RX6 142 (12), Cond.fieldLink RX6 101 "TillOneOfSortModel" "shares" "J", Cond.fieldLink RX6 104 "TillOneOfSortModel" "more" "J", Cond.fieldLink RX6 107 "TillOneOfSortModel" "alike" "J", Cond.fieldLink RX6 110 "TillOneOfSortModel" "meets" "J", Cond.fieldLink RX6 113 "TillOneOfSortModel" "pairs" "J", Cond.fieldLink RX6 125 "TillOneOfSortModel" "says" "J", Cond.fieldLink RX6 128 "TillOneOfSortModel" "eldest" "J", Cond.methodLink RX6 144 yX6_goesOn, Cond.instanceMethod yX6_goesOn, Cond.selects RX6 yX6_goesOn yX6_goesOn, Cond.code yX6_goesOn cX6_goesOn 10 none, Cond.methodLink RX6 131 yX6_endsBy, Cond.instanceMethod yX6_endsBy]
def wsL_law_r17 : List Cond := [Cond.selects RX6 yX6_endsBy yX6_endsBy, Cond.code yX6_endsBy cX6_endsBy 5 (some .boolean), Cond.methodLink RX6 135 yX6_isFamily, Cond.instanceMethod yX6_isFamily, Cond.selects RX6 yX6_isFamily yX6_isFamily, Cond.code yX6_isFamily cX6_isFamily 7 none, Cond.fieldLink RX6 116 "TillOneOfSortModel" "saysOnes" "I", Cond.fieldLink RX6 119 "TillOneOfSortModel" "saysSort" "I", Cond.fieldLink RX6 122 "TillOneOfSortModel" "saysZeros" "I", Cond.methodLink RX6 139 yX6_twelfths, Cond.instanceMethod yX6_twelfths, Cond.selects RX6 yX6_twelfths yX6_twelfths, Cond.code yX6_twelfths cX6_twelfths 4 (some .int), Cond.methodLink RX6 166 yX6_part, Cond.static yX6_part, Cond.code yX6_part cX6_part 7 (some .long), Cond.methodLink RX6 151 yX6_common, Cond.static yX6_common, Cond.code yX6_common cX6_common 4 (some .long), Cond.methodLink RL 42 yX5_share, Cond.instanceMethod yX5_share, Cond.selects RX5 yX5_share yX5_share, Cond.code yX5_share cX5_share 2 (some .long), Cond.constantLong RX5 113 (156031757844480)]
def wsL_law_r18 : List Cond := [Cond.methodLink RL 46 yX6_share, Cond.instanceMethod yX6_share, Cond.selects RX6 yX6_share yX6_share, Cond.code yX6_share cX6_share 2 (some .long), Cond.constantLong RX6 170 (2520), Cond.methodLink RL 47 yX5_all, Cond.instanceMethod yX5_all, Cond.selects RX5 yX5_all yX5_all, Cond.code yX5_all cX5_all 3 (some .long), Cond.methodLink RL 50 yX6_all, Cond.instanceMethod yX6_all, Cond.selects RX6 yX6_all yX6_all, Cond.code yX6_all cX6_all 2 (some .long), Cond.methodLink RL 51 yX5_more, Cond.instanceMethod yX5_more, Cond.selects RX5 yX5_more yX5_more, Cond.code yX5_more cX5_more 3 (some .long), Cond.methodLink RL 54 yX6_more, Cond.instanceMethod yX6_more, Cond.selects RX6 yX6_more yX6_more, Cond.code yX6_more cX6_more 3 (some .long), Cond.methodLink RL 55 yX5_size, Cond.instanceMethod yX5_size, Cond.selects RX5 yX5_size yX5_size]
def wsL_law_r19 : List Cond := [Cond.code yX5_size cX5_size 3 (some .long), Cond.methodLink RL 58 yX6_size, Cond.instanceMethod yX6_size, Cond.selects RX6 yX6_size yX6_size, Cond.code yX6_size cX6_size 4 (some .long), Cond.methodLink RL 59 yX5_met, Cond.instanceMethod yX5_met, Cond.selects RX5 yX5_met yX5_met, Cond.code yX5_met cX5_met 5 (some .long), Cond.methodLink RL 62 yX6_met, Cond.instanceMethod yX6_met, Cond.selects RX6 yX6_met yX6_met, Cond.code yX6_met cX6_met 3 (some .long), Cond.methodLink RL 63 yX5_says, Cond.instanceMethod yX5_says, Cond.selects RX5 yX5_says yX5_says, Cond.code yX5_says cX5_says 11 (some .long), Cond.methodLink RX5 115 yX1_families, Cond.methodLink RX5 118 yX1_familiesFrom, Cond.instanceMethod yX1_familiesFrom, Cond.selects RX1 yX1_familiesFrom yX1_familiesFrom, Cond.code yX1_familiesFrom cX1_familiesFrom 4 (some .long), Cond.methodLink RL 67 yX6_says, Cond.instanceMethod yX6_says]
def wsL_law_r20 : List Cond := [Cond.selects RX6 yX6_says yX6_says, Cond.code yX6_says cX6_says 7 (some .long), Cond.methodLink RL 68 yX5_trial, Cond.instanceMethod yX5_trial, Cond.selects RX5 yX5_trial yX5_trial, Cond.code yX5_trial cX5_trial 4 (some .long), Cond.methodLink RL 72 yX6_trial, Cond.instanceMethod yX6_trial, Cond.selects RX6 yX6_trial yX6_trial, Cond.code yX6_trial cX6_trial 8 (some .long), Cond.methodLink RX6 172 yX6_triedBy, Cond.instanceMethod yX6_triedBy, Cond.selects RX6 yX6_triedBy yX6_triedBy, Cond.code yX6_triedBy cX6_triedBy 8 (some .long), Cond.methodLink RL 73 yX5_row, Cond.instanceMethod yX5_row, Cond.selects RX5 yX5_row yX5_row, Cond.code yX5_row cX5_row 2 (some .int), Cond.fieldLink RX5 132 "TillOneOfSort" "rowLength" "I", Cond.fieldLink RX5 135 "TillOneOfSort" "rowSorts" "I", Cond.methodLink RL 76 yX6_row, Cond.instanceMethod yX6_row, Cond.selects RX6 yX6_row yX6_row, Cond.code yX6_row cX6_row 3 (some .int)]
def wsL_law_r21 : List Cond := [Cond.fieldLink RX6 185 "TillOneOfSortModel" "rowed" "I", Cond.fieldLink RX6 188 "TillOneOfSortModel" "rowSorts" "I", Cond.methodLink RL 77 yX5_gone, Cond.instanceMethod yX5_gone, Cond.selects RX5 yX5_gone yX5_gone, Cond.code yX5_gone cX5_gone 2 (some .long), Cond.constantLong RX5 141 (12), Cond.methodLink RX5 138 yX5_lastInTwelfths, Cond.instanceMethod yX5_lastInTwelfths, Cond.selects RX5 yX5_lastInTwelfths yX5_lastInTwelfths, Cond.code yX5_lastInTwelfths cX5_lastInTwelfths 6 (some .int), Cond.methodLink RX5 153 yX3_stopPlace, Cond.instanceMethod yX3_stopPlace, Cond.selects RX3 yX3_stopPlace yX3_stopPlace, Cond.code yX3_stopPlace cX3_stopPlace 8 (some .int), Cond.methodLink RX5 196 yJ6_bitCount_0f7a4, Cond.static yJ6_bitCount_0f7a4, Cond.initialized RJ6, Cond.code yJ6_bitCount_0f7a4 cJ6_bitCount_0f7a4 1 (some .int), Cond.constant RJ6 265 (1431655765), Cond.constant RJ6 266 (858993459), Cond.constant RJ6 267 (252645135), Cond.methodLink RX5 201 yX5_latestOnes, Cond.static yX5_latestOnes]
def wsL_law_r22 : List Cond := [Cond.code yX5_latestOnes cX5_latestOnes 4 (some .int), Cond.methodLink RX5 204 yX5_chanceOfOne, Cond.methodLink RL 80 yX6_gone, Cond.instanceMethod yX6_gone, Cond.selects RX6 yX6_gone yX6_gone, Cond.code yX6_gone cX6_gone 5 (some .long), Cond.fieldLink RX6 176 "TillOneOfSortModel" "lastOnes" "I", Cond.fieldLink RX6 179 "TillOneOfSortModel" "lastZeros" "I", Cond.fieldLink RX6 182 "TillOneOfSortModel" "lastRun" "I", Cond.methodLink RX6 191 yX6_stopOf, Cond.instanceMethod yX6_stopOf, Cond.selects RX6 yX6_stopOf yX6_stopOf, Cond.code yX6_stopOf cX6_stopOf 6 (some .int), Cond.methodLink RL 81 yX5_shift, Cond.instanceMethod yX5_shift, Cond.selects RX5 yX5_shift yX5_shift, Cond.code yX5_shift cX5_shift 5 (some .int), Cond.methodLink RX5 143 yX5_compareAll, Cond.instanceMethod yX5_compareAll, Cond.selects RX5 yX5_compareAll yX5_compareAll, Cond.code yX5_compareAll cX5_compareAll 5 (some .int), Cond.methodLink RX5 192 yX5_compareFractions, Cond.static yX5_compareFractions, Cond.code yX5_compareFractions cX5_compareFractions 21 (some .int)]
def wsL_law_r23 : List Cond := [Cond.methodLink RL 84 yX6_shift, Cond.instanceMethod yX6_shift, Cond.selects RX6 yX6_shift yX6_shift, Cond.code yX6_shift cX6_shift 13 (some .int), Cond.methodLink RX6 194 yX6_isMore, Cond.static yX6_isMore, Cond.code yX6_isMore cX6_isMore 16 (some .boolean), Cond.methodLink RL 85 yX5_fits, Cond.instanceMethod yX5_fits, Cond.selects RX5 yX5_fits yX5_fits, Cond.code yX5_fits cX5_fits 5 (some .int), Cond.methodLink RX5 147 yX3_endsAllSeen, Cond.instanceMethod yX3_endsAllSeen, Cond.selects RX3 yX3_endsAllSeen yX3_endsAllSeen, Cond.code yX3_endsAllSeen cX3_endsAllSeen 3 (some .boolean), Cond.methodLink RX3 77 yX3_stopPlace, Cond.methodLink RX5 150 yX3_countStoppedAhead, Cond.instanceMethod yX3_countStoppedAhead, Cond.selects RX3 yX3_countStoppedAhead yX3_countStoppedAhead, Cond.code yX3_countStoppedAhead cX3_countStoppedAhead 4 (some .int), Cond.methodLink RL 88 yX6_fits, Cond.instanceMethod yX6_fits, Cond.selects RX6 yX6_fits yX6_fits, Cond.code yX6_fits cX6_fits 7 (some .int)]
def wsL_law_r24 : List Cond := [Cond.methodLink RX6 198 yX6_manyOf, Cond.instanceMethod yX6_manyOf, Cond.selects RX6 yX6_manyOf yX6_manyOf, Cond.code yX6_manyOf cX6_manyOf 2 (some .int), Cond.methodLink RX6 201 yX6_sortsOf, Cond.instanceMethod yX6_sortsOf, Cond.selects RX6 yX6_sortsOf yX6_sortsOf, Cond.code yX6_sortsOf cX6_sortsOf 2 (some .int), Cond.methodLink RL 89 yX5_judge, Cond.instanceMethod yX5_judge, Cond.selects RX5 yX5_judge yX5_judge, Cond.code yX5_judge cX5_judge 3 (some .int), Cond.methodLink RL 92 yX6_judge, Cond.instanceMethod yX6_judge, Cond.selects RX6 yX6_judge yX6_judge, Cond.code yX6_judge cX6_judge 3 (some .int), Cond.methodLink RL 93 yX5_seen, Cond.instanceMethod yX5_seen, Cond.selects RX5 yX5_seen yX5_seen, Cond.code yX5_seen cX5_seen 3 (some .int), Cond.methodLink RX5 159 yX3_lengthOf, Cond.methodLink RX5 162 yX3_sortsOf, Cond.methodLink RL 96 yX6_seen, Cond.instanceMethod yX6_seen]
def wsL_law_r25 : List Cond := [Cond.selects RX6 yX6_seen yX6_seen, Cond.code yX6_seen cX6_seen 4 (some .int), Cond.methodLink RL 97 yX5_cheats, Cond.instanceMethod yX5_cheats, Cond.selects RX5 yX5_cheats yX5_cheats, Cond.code yX5_cheats cX5_cheats 1 (some .int), Cond.methodLink RL 100 yX6_cheats, Cond.instanceMethod yX6_cheats, Cond.selects RX6 yX6_cheats yX6_cheats, Cond.code yX6_cheats cX6_cheats 4 (some .int), Cond.methodLink RL 101 yX5_lots, Cond.instanceMethod yX5_lots, Cond.selects RX5 yX5_lots yX5_lots, Cond.code yX5_lots cX5_lots 4 (some .int), Cond.methodLink RX5 165 yX5_countLots, Cond.instanceMethod yX5_countLots, Cond.selects RX5 yX5_countLots yX5_countLots, Cond.code yX5_countLots cX5_countLots 13 (some .int), Cond.constant RX5 208 (1664525), Cond.constant RX5 209 (1013904223), Cond.constant RX5 210 (2147483647), Cond.methodLink RL 104 yX6_lots, Cond.instanceMethod yX6_lots, Cond.selects RX6 yX6_lots yX6_lots]
def wsL_law_r26 : List Cond := [Cond.code yX6_lots cX6_lots 11 (some .int), Cond.fieldLink RX6 204 "TillOneOfSortModel" "seed" "I", Cond.methodLink RX6 210 yX6_drawn, Cond.instanceMethod yX6_drawn, Cond.selects RX6 yX6_drawn yX6_drawn, Cond.code yX6_drawn cX6_drawn 2 (some .int), Cond.constant RX6 207 (1664525), Cond.constant RX6 208 (1013904223), Cond.constant RX6 209 (2147483647), Cond.methodLink RL 105 yX5_image, Cond.instanceMethod yX5_image, Cond.selects RX5 yX5_image yX5_image, Cond.code yX5_image cX5_image 1 (some .int), Cond.fieldLink RX5 172 "TillOneOfSort" "isKept" "Z", Cond.methodLink RL 108 yX6_image, Cond.instanceMethod yX6_image, Cond.selects RX6 yX6_image yX6_image, Cond.code yX6_image cX6_image 1 (some .int), Cond.fieldLink RX6 213 "TillOneOfSortModel" "isImage" "Z", Cond.methodLink RL 109 yX5_on, Cond.instanceMethod yX5_on, Cond.selects RX5 yX5_on yX5_on, Cond.code yX5_on cX5_on 1 (some .int), Cond.methodLink RL 112 yX6_on]
def wsL_law_r27 : List Cond := [Cond.instanceMethod yX6_on, Cond.selects RX6 yX6_on yX6_on, Cond.code yX6_on cX6_on 1 (some .int), Cond.methodLink RL 113 yX5_count, Cond.instanceMethod yX5_count, Cond.selects RX5 yX5_count yX5_count, Cond.code yX5_count cX5_count 2 (some .int), Cond.methodLink RL 116 yX6_count, Cond.instanceMethod yX6_count, Cond.selects RX6 yX6_count yX6_count, Cond.code yX6_count cX6_count 2 (some .int)]
def wsL_law : List Cond := (wsL_law_r1 ++ (wsL_law_r2 ++ (wsL_law_r3 ++ (wsL_law_r4 ++ (wsL_law_r5 ++ (wsL_law_r6 ++ (wsL_law_r7 ++ (wsL_law_r8 ++ (wsL_law_r9 ++ (wsL_law_r10 ++ (wsL_law_r11 ++ (wsL_law_r12 ++ (wsL_law_r13 ++ (wsL_law_r14 ++ (wsL_law_r15 ++ (wsL_law_r16 ++ (wsL_law_r17 ++ (wsL_law_r18 ++ (wsL_law_r19 ++ (wsL_law_r20 ++ (wsL_law_r21 ++ (wsL_law_r22 ++ (wsL_law_r23 ++ (wsL_law_r24 ++ (wsL_law_r25 ++ (wsL_law_r26 ++ wsL_law_r27)))))))))))))))))))))))))) ++ wsX50 ++ wsX60 ++ wsX30 ++ wsX20 ++ wsX40 ++ wsX10 ++ wsX00 ++ ([] : List Cond)
abbrev vwCl : List vw_C := [(RX0, TX0, 1), (RX1, TX1, 7), (RX2, TX2, 2), (RX3, TX3, 8), (RX4, TX4, 2), (RX5, TX5, 10), (RX6, TX6, 29)]
end
section
theorem dX0_init_0 : decode cX0_init 0 = .ok (.aload_n 0, 1) := by decide +kernel
theorem dX0_init_1 : decode cX0_init 1 = .ok (.invokespecial 3, 3) := by decide +kernel
theorem dX0_init_4 : decode cX0_init 4 = .ok (.aload_n 0, 1) := by decide +kernel
theorem dX0_init_5 : decode cX0_init 5 = .ok (.sipush 242, 3) := by decide +kernel
theorem dX0_init_8 : decode cX0_init 8 = .ok (.newarray .long, 2) := by decide +kernel
theorem dX0_init_10 : decode cX0_init 10 = .ok (.putfield 11, 3) := by decide +kernel
theorem dX0_init_13 : decode cX0_init 13 = .ok (.return_, 1) := by decide +kernel
theorem dX0_placeOf_0 : decode cX0_placeOf 0 = .ok (.iload_n 0, 1) := by decide +kernel
theorem dX0_placeOf_1 : decode cX0_placeOf 1 = .ok (.ifCond .lt 28, 3) := by decide +kernel
theorem dX0_placeOf_4 : decode cX0_placeOf 4 = .ok (.iload_n 0, 1) := by decide +kernel
theorem dX0_placeOf_5 : decode cX0_placeOf 5 = .ok (.iconst 1, 1) := by decide +kernel
theorem dX0_placeOf_6 : decode cX0_placeOf 6 = .ok (.if_icmp .gt 23, 3) := by decide +kernel
theorem dX0_placeOf_9 : decode cX0_placeOf 9 = .ok (.iload_n 1, 1) := by decide +kernel
theorem dX0_placeOf_10 : decode cX0_placeOf 10 = .ok (.ifCond .lt 19, 3) := by decide +kernel
theorem dX0_placeOf_13 : decode cX0_placeOf 13 = .ok (.iload_n 1, 1) := by decide +kernel
theorem dX0_placeOf_14 : decode cX0_placeOf 14 = .ok (.bipush 11, 2) := by decide +kernel
theorem dX0_placeOf_16 : decode cX0_placeOf 16 = .ok (.if_icmp .ge 13, 3) := by decide +kernel
theorem dX0_placeOf_19 : decode cX0_placeOf 19 = .ok (.iload_n 2, 1) := by decide +kernel
theorem dX0_placeOf_20 : decode cX0_placeOf 20 = .ok (.ifCond .lt 9, 3) := by decide +kernel
theorem dX0_placeOf_23 : decode cX0_placeOf 23 = .ok (.iload_n 2, 1) := by decide +kernel
theorem dX0_placeOf_24 : decode cX0_placeOf 24 = .ok (.bipush 11, 2) := by decide +kernel
theorem dX0_placeOf_26 : decode cX0_placeOf 26 = .ok (.if_icmp .lt 5, 3) := by decide +kernel
theorem dX0_placeOf_29 : decode cX0_placeOf 29 = .ok (.iconst (-1), 1) := by decide +kernel
theorem dX0_placeOf_30 : decode cX0_placeOf 30 = .ok (.ireturn, 1) := by decide +kernel
theorem dX0_placeOf_31 : decode cX0_placeOf 31 = .ok (.iload_n 0, 1) := by decide +kernel
theorem dX0_placeOf_32 : decode cX0_placeOf 32 = .ok (.bipush 11, 2) := by decide +kernel
theorem dX0_placeOf_34 : decode cX0_placeOf 34 = .ok (.imul, 1) := by decide +kernel
theorem dX0_placeOf_35 : decode cX0_placeOf 35 = .ok (.iload_n 1, 1) := by decide +kernel
theorem dX0_placeOf_36 : decode cX0_placeOf 36 = .ok (.iadd, 1) := by decide +kernel
theorem dX0_placeOf_37 : decode cX0_placeOf 37 = .ok (.bipush 11, 2) := by decide +kernel
theorem dX0_placeOf_39 : decode cX0_placeOf 39 = .ok (.imul, 1) := by decide +kernel
theorem dX0_placeOf_40 : decode cX0_placeOf 40 = .ok (.iload_n 2, 1) := by decide +kernel
theorem dX0_placeOf_41 : decode cX0_placeOf 41 = .ok (.iadd, 1) := by decide +kernel
theorem dX0_placeOf_42 : decode cX0_placeOf 42 = .ok (.ireturn, 1) := by decide +kernel
set_option maxRecDepth 20000 in
theorem ggX0_at_X0_placeOf : GoodIn wsX0_at wsX0_placeOf := goodIn_r _ [5] (by decide +kernel) (by decide +kernel)
set_option maxRecDepth 20000 in
theorem gX0_at_X0_placeOf : GoodIn wsX0_at (va_wsS RX0 15 yX0_placeOf wsX0_placeOf) := goodIn_app (goodIn_of _ (by decide +kernel)) ggX0_at_X0_placeOf
theorem dX0_at_0 : decode cX0_at 0 = .ok (.iload_n 1, 1) := by decide +kernel
theorem dX0_at_1 : decode cX0_at 1 = .ok (.iload_n 2, 1) := by decide +kernel
theorem dX0_at_2 : decode cX0_at 2 = .ok (.iload_n 3, 1) := by decide +kernel
theorem dX0_at_3 : decode cX0_at 3 = .ok (.invokestatic 15, 3) := by decide +kernel
theorem dX0_at_6 : decode cX0_at 6 = .ok (.istore 4, 2) := by decide +kernel
theorem dX0_at_8 : decode cX0_at 8 = .ok (.iload 4, 2) := by decide +kernel
theorem dX0_at_10 : decode cX0_at 10 = .ok (.ifCond .lt 23, 3) := by decide +kernel
theorem dX0_at_13 : decode cX0_at 13 = .ok (.iload 4, 2) := by decide +kernel
theorem dX0_at_15 : decode cX0_at 15 = .ok (.aload_n 0, 1) := by decide +kernel
theorem dX0_at_16 : decode cX0_at 16 = .ok (.getfield 11, 3) := by decide +kernel
theorem dX0_at_19 : decode cX0_at 19 = .ok (.arraylength, 1) := by decide +kernel
theorem dX0_at_20 : decode cX0_at 20 = .ok (.if_icmp .ge 13, 3) := by decide +kernel
theorem dX0_at_23 : decode cX0_at 23 = .ok (.aload_n 0, 1) := by decide +kernel
theorem dX0_at_24 : decode cX0_at 24 = .ok (.getfield 11, 3) := by decide +kernel
theorem dX0_at_27 : decode cX0_at 27 = .ok (.iload 4, 2) := by decide +kernel
theorem dX0_at_29 : decode cX0_at 29 = .ok (.laload, 1) := by decide +kernel
theorem dX0_at_30 : decode cX0_at 30 = .ok (.goto 4, 3) := by decide +kernel
theorem dX0_at_33 : decode cX0_at 33 = .ok (.lconst 0, 1) := by decide +kernel
theorem dX0_at_34 : decode cX0_at 34 = .ok (.lreturn, 1) := by decide +kernel
set_option maxRecDepth 20000 in
theorem ggX0_add_X0_placeOf : GoodIn wsX0_add wsX0_placeOf := goodIn_r _ [5] (by decide +kernel) (by decide +kernel)
set_option maxRecDepth 20000 in
theorem gX0_add_X0_placeOf : GoodIn wsX0_add (va_wsS RX0 15 yX0_placeOf wsX0_placeOf) := goodIn_app (goodIn_of _ (by decide +kernel)) ggX0_add_X0_placeOf
theorem dX0_add_0 : decode cX0_add 0 = .ok (.iload_n 1, 1) := by decide +kernel
theorem dX0_add_1 : decode cX0_add 1 = .ok (.iload_n 2, 1) := by decide +kernel
theorem dX0_add_2 : decode cX0_add 2 = .ok (.iload_n 3, 1) := by decide +kernel
theorem dX0_add_3 : decode cX0_add 3 = .ok (.invokestatic 15, 3) := by decide +kernel
theorem dX0_add_6 : decode cX0_add 6 = .ok (.istore 6, 2) := by decide +kernel
theorem dX0_add_8 : decode cX0_add 8 = .ok (.iload 6, 2) := by decide +kernel
theorem dX0_add_10 : decode cX0_add 10 = .ok (.ifCond .lt 25, 3) := by decide +kernel
theorem dX0_add_13 : decode cX0_add 13 = .ok (.iload 6, 2) := by decide +kernel
theorem dX0_add_15 : decode cX0_add 15 = .ok (.aload_n 0, 1) := by decide +kernel
theorem dX0_add_16 : decode cX0_add 16 = .ok (.getfield 11, 3) := by decide +kernel
theorem dX0_add_19 : decode cX0_add 19 = .ok (.arraylength, 1) := by decide +kernel
theorem dX0_add_20 : decode cX0_add 20 = .ok (.if_icmp .ge 15, 3) := by decide +kernel
theorem dX0_add_23 : decode cX0_add 23 = .ok (.aload_n 0, 1) := by decide +kernel
theorem dX0_add_24 : decode cX0_add 24 = .ok (.getfield 11, 3) := by decide +kernel
theorem dX0_add_27 : decode cX0_add 27 = .ok (.iload 6, 2) := by decide +kernel
theorem dX0_add_29 : decode cX0_add 29 = .ok (.dup2, 1) := by decide +kernel
theorem dX0_add_30 : decode cX0_add 30 = .ok (.laload, 1) := by decide +kernel
theorem dX0_add_31 : decode cX0_add 31 = .ok (.lload 4, 2) := by decide +kernel
theorem dX0_add_33 : decode cX0_add 33 = .ok (.ladd, 1) := by decide +kernel
theorem dX0_add_34 : decode cX0_add 34 = .ok (.lastore, 1) := by decide +kernel
theorem dX0_add_35 : decode cX0_add 35 = .ok (.return_, 1) := by decide +kernel
set_option maxRecDepth 20000 in
theorem ggX0_clear_J7_fill_d0a16 : GoodIn wsX0_clear wsJ7_fill_d0a16 := goodIn_r _ [5] (by decide +kernel) (by decide +kernel)
set_option maxRecDepth 20000 in
theorem gX0_clear_J7_fill_d0a16 : GoodIn wsX0_clear (va_wsS RX0 19 yJ7_fill_d0a16 wsJ7_fill_d0a16) := goodIn_app (goodIn_of _ (by decide +kernel)) ggX0_clear_J7_fill_d0a16
theorem dX0_clear_0 : decode cX0_clear 0 = .ok (.aload_n 0, 1) := by decide +kernel
theorem dX0_clear_1 : decode cX0_clear 1 = .ok (.getfield 11, 3) := by decide +kernel
theorem dX0_clear_4 : decode cX0_clear 4 = .ok (.lconst 0, 1) := by decide +kernel
theorem dX0_clear_5 : decode cX0_clear 5 = .ok (.invokestatic 19, 3) := by decide +kernel
theorem dX0_clear_8 : decode cX0_clear 8 = .ok (.return_, 1) := by decide +kernel
set_option maxRecDepth 20000 in
theorem ggX1_init_X0_init : GoodIn wsX1_init wsX0_init := goodIn_r _ [11, 12, 2, 3, 13, 14, 15] (by decide +kernel) (by decide +kernel)
set_option maxRecDepth 20000 in
theorem gX1_init_X0_init_n11 : GoodIn wsX1_init (wsX0_init) := ggX1_init_X0_init
theorem dX1_init_0 : decode cX1_init 0 = .ok (.aload_n 0, 1) := by decide +kernel
theorem dX1_init_1 : decode cX1_init 1 = .ok (.invokespecial 3, 3) := by decide +kernel
theorem dX1_init_4 : decode cX1_init 4 = .ok (.aload_n 0, 1) := by decide +kernel
theorem dX1_init_5 : decode cX1_init 5 = .ok (.new 9, 3) := by decide +kernel
theorem dX1_init_8 : decode cX1_init 8 = .ok (.dup, 1) := by decide +kernel
theorem dX1_init_9 : decode cX1_init 9 = .ok (.invokespecial 11, 3) := by decide +kernel
theorem dX1_init_12 : decode cX1_init 12 = .ok (.putfield 12, 3) := by decide +kernel
theorem dX1_init_15 : decode cX1_init 15 = .ok (.aload_n 0, 1) := by decide +kernel
theorem dX1_init_16 : decode cX1_init 16 = .ok (.iconst (-1), 1) := by decide +kernel
theorem dX1_init_17 : decode cX1_init 17 = .ok (.putfield 18, 3) := by decide +kernel
theorem dX1_init_20 : decode cX1_init 20 = .ok (.aload_n 0, 1) := by decide +kernel
theorem dX1_init_21 : decode cX1_init 21 = .ok (.aload_n 1, 1) := by decide +kernel
theorem dX1_init_22 : decode cX1_init 22 = .ok (.putfield 22, 3) := by decide +kernel
theorem dX1_init_25 : decode cX1_init 25 = .ok (.return_, 1) := by decide +kernel
set_option maxRecDepth 20000 in
theorem ggX1_retell_X0_clear : GoodIn wsX1_retell wsX0_clear := goodIn_r _ [12, 13, 14, 15, 16, 17, 66] (by decide +kernel) (by decide +kernel)
set_option maxRecDepth 20000 in
theorem gX1_retell_X0_clear : GoodIn wsX1_retell (wsV RX1 38 RX0 yX0_clear wsX0_clear) := goodIn_app (goodIn_of _ (by decide +kernel)) ggX1_retell_X0_clear
set_option maxRecDepth 20000 in
theorem ggX1_retell_X4_begin : GoodIn wsX1_retell wsX4_begin := goodIn_r _ [22, 23, 24, 25, 9, 10, 11, 12, 13, 14, 15, 16, 17, 26, 27, 28, 29, 30, 31, 32, 67, 68, 66] (by decide +kernel) (by decide +kernel)
set_option maxRecDepth 20000 in
theorem gX1_retell_X4_begin : GoodIn wsX1_retell (wsV RX1 41 RX4 yX4_begin wsX4_begin) := goodIn_app (goodIn_of _ (by decide +kernel)) ggX1_retell_X4_begin
set_option maxRecDepth 20000 in
theorem ggX1_retell_X1_goOn : GoodIn wsX1_retell wsX1_goOn := goodIn_r _ [37, 7, 3, 1, 2, 6, 4, 5, 38, 39, 40, 11, 41, 13, 30, 31, 32, 42, 43, 44, 45, 27, 28, 29, 46, 47, 48, 49, 50, 51, 52, 53, 54, 59, 60, 61, 62, 63, 64, 65, 67, 68, 66] (by decide +kernel) (by decide +kernel)
set_option maxRecDepth 20000 in
theorem gX1_retell_X1_goOn : GoodIn wsX1_retell (wsV RX1 47 RX1 yX1_goOn wsX1_goOn) := goodIn_app (goodIn_of _ (by decide +kernel)) ggX1_retell_X1_goOn
set_option maxRecDepth 20000 in
theorem ggX1_retell_X4_stepOn : GoodIn wsX1_retell wsX4_stepOn := goodIn_r _ [58, 23, 24, 25, 9, 10, 11, 12, 13, 14, 15, 16, 17, 67, 68, 66] (by decide +kernel) (by decide +kernel)
set_option maxRecDepth 20000 in
theorem gX1_retell_X4_stepOn : GoodIn wsX1_retell (wsV RX1 51 RX4 yX4_stepOn wsX4_stepOn) := goodIn_app (goodIn_of _ (by decide +kernel)) ggX1_retell_X4_stepOn
theorem dX1_retell_0 : decode cX1_retell 0 = .ok (.aload_n 0, 1) := by decide +kernel
theorem dX1_retell_1 : decode cX1_retell 1 = .ok (.getfield 18, 3) := by decide +kernel
theorem dX1_retell_4 : decode cX1_retell 4 = .ok (.iload_n 1, 1) := by decide +kernel
theorem dX1_retell_5 : decode cX1_retell 5 = .ok (.if_icmp .ne 38, 3) := by decide +kernel
theorem dX1_retell_8 : decode cX1_retell 8 = .ok (.aload_n 0, 1) := by decide +kernel
theorem dX1_retell_9 : decode cX1_retell 9 = .ok (.getfield 26, 3) := by decide +kernel
theorem dX1_retell_12 : decode cX1_retell 12 = .ok (.iload_n 2, 1) := by decide +kernel
theorem dX1_retell_13 : decode cX1_retell 13 = .ok (.if_icmp .ne 30, 3) := by decide +kernel
theorem dX1_retell_16 : decode cX1_retell 16 = .ok (.aload_n 0, 1) := by decide +kernel
theorem dX1_retell_17 : decode cX1_retell 17 = .ok (.getfield 29, 3) := by decide +kernel
theorem dX1_retell_20 : decode cX1_retell 20 = .ok (.iload_n 3, 1) := by decide +kernel
theorem dX1_retell_21 : decode cX1_retell 21 = .ok (.if_icmp .ne 22, 3) := by decide +kernel
theorem dX1_retell_24 : decode cX1_retell 24 = .ok (.aload_n 0, 1) := by decide +kernel
theorem dX1_retell_25 : decode cX1_retell 25 = .ok (.getfield 32, 3) := by decide +kernel
theorem dX1_retell_28 : decode cX1_retell 28 = .ok (.iload 4, 2) := by decide +kernel
theorem dX1_retell_30 : decode cX1_retell 30 = .ok (.if_icmp .ne 13, 3) := by decide +kernel
theorem dX1_retell_33 : decode cX1_retell 33 = .ok (.aload_n 0, 1) := by decide +kernel
theorem dX1_retell_34 : decode cX1_retell 34 = .ok (.getfield 35, 3) := by decide +kernel
theorem dX1_retell_37 : decode cX1_retell 37 = .ok (.iload 5, 2) := by decide +kernel
theorem dX1_retell_39 : decode cX1_retell 39 = .ok (.if_icmp .ne 4, 3) := by decide +kernel
theorem dX1_retell_42 : decode cX1_retell 42 = .ok (.return_, 1) := by decide +kernel
theorem dX1_retell_43 : decode cX1_retell 43 = .ok (.aload_n 0, 1) := by decide +kernel
theorem dX1_retell_44 : decode cX1_retell 44 = .ok (.iload_n 1, 1) := by decide +kernel
theorem dX1_retell_45 : decode cX1_retell 45 = .ok (.putfield 18, 3) := by decide +kernel
theorem dX1_retell_48 : decode cX1_retell 48 = .ok (.aload_n 0, 1) := by decide +kernel
theorem dX1_retell_49 : decode cX1_retell 49 = .ok (.iload_n 2, 1) := by decide +kernel
theorem dX1_retell_50 : decode cX1_retell 50 = .ok (.putfield 26, 3) := by decide +kernel
theorem dX1_retell_53 : decode cX1_retell 53 = .ok (.aload_n 0, 1) := by decide +kernel
theorem dX1_retell_54 : decode cX1_retell 54 = .ok (.iload_n 3, 1) := by decide +kernel
theorem dX1_retell_55 : decode cX1_retell 55 = .ok (.putfield 29, 3) := by decide +kernel
theorem dX1_retell_58 : decode cX1_retell 58 = .ok (.aload_n 0, 1) := by decide +kernel
theorem dX1_retell_59 : decode cX1_retell 59 = .ok (.iload 4, 2) := by decide +kernel
theorem dX1_retell_61 : decode cX1_retell 61 = .ok (.putfield 32, 3) := by decide +kernel
theorem dX1_retell_64 : decode cX1_retell 64 = .ok (.aload_n 0, 1) := by decide +kernel
theorem dX1_retell_65 : decode cX1_retell 65 = .ok (.iload 5, 2) := by decide +kernel
theorem dX1_retell_67 : decode cX1_retell 67 = .ok (.putfield 35, 3) := by decide +kernel
theorem dX1_retell_70 : decode cX1_retell 70 = .ok (.aload_n 0, 1) := by decide +kernel
theorem dX1_retell_71 : decode cX1_retell 71 = .ok (.getfield 12, 3) := by decide +kernel
theorem dX1_retell_74 : decode cX1_retell 74 = .ok (.invokevirtual 38, 3) := by decide +kernel
theorem dX1_retell_77 : decode cX1_retell 77 = .ok (.aload_n 0, 1) := by decide +kernel
theorem dX1_retell_78 : decode cX1_retell 78 = .ok (.getfield 22, 3) := by decide +kernel
theorem dX1_retell_81 : decode cX1_retell 81 = .ok (.aload_n 0, 1) := by decide +kernel
theorem dX1_retell_82 : decode cX1_retell 82 = .ok (.getfield 32, 3) := by decide +kernel
theorem dX1_retell_85 : decode cX1_retell 85 = .ok (.invokevirtual 41, 3) := by decide +kernel
theorem dX1_retell_88 : decode cX1_retell 88 = .ok (.iconst 1, 1) := by decide +kernel
theorem dX1_retell_89 : decode cX1_retell 89 = .ok (.istore 6, 2) := by decide +kernel
theorem dX1_retell_91 : decode cX1_retell 91 = .ok (.iload 6, 2) := by decide +kernel
theorem dX1_retell_93 : decode cX1_retell 93 = .ok (.aload_n 0, 1) := by decide +kernel
theorem dX1_retell_94 : decode cX1_retell 94 = .ok (.getfield 29, 3) := by decide +kernel
theorem dX1_retell_97 : decode cX1_retell 97 = .ok (.if_icmp .gt 70, 3) := by decide +kernel
theorem dX1_retell_100 : decode cX1_retell 100 = .ok (.iconst 0, 1) := by decide +kernel
theorem dX1_retell_101 : decode cX1_retell 101 = .ok (.istore 7, 2) := by decide +kernel
theorem dX1_retell_103 : decode cX1_retell 103 = .ok (.iload 7, 2) := by decide +kernel
theorem dX1_retell_105 : decode cX1_retell 105 = .ok (.iload 6, 2) := by decide +kernel
theorem dX1_retell_107 : decode cX1_retell 107 = .ok (.if_icmp .gt 47, 3) := by decide +kernel
theorem dX1_retell_110 : decode cX1_retell 110 = .ok (.iconst 0, 1) := by decide +kernel
theorem dX1_retell_111 : decode cX1_retell 111 = .ok (.istore 8, 2) := by decide +kernel
theorem dX1_retell_113 : decode cX1_retell 113 = .ok (.iload 8, 2) := by decide +kernel
theorem dX1_retell_115 : decode cX1_retell 115 = .ok (.iload 7, 2) := by decide +kernel
theorem dX1_retell_117 : decode cX1_retell 117 = .ok (.if_icmp .gt 31, 3) := by decide +kernel
theorem dX1_retell_120 : decode cX1_retell 120 = .ok (.aload_n 0, 1) := by decide +kernel
theorem dX1_retell_121 : decode cX1_retell 121 = .ok (.iconst 0, 1) := by decide +kernel
theorem dX1_retell_122 : decode cX1_retell 122 = .ok (.iload 6, 2) := by decide +kernel
theorem dX1_retell_124 : decode cX1_retell 124 = .ok (.iload 7, 2) := by decide +kernel
theorem dX1_retell_126 : decode cX1_retell 126 = .ok (.iload 8, 2) := by decide +kernel
theorem dX1_retell_128 : decode cX1_retell 128 = .ok (.invokevirtual 47, 3) := by decide +kernel
theorem dX1_retell_131 : decode cX1_retell 131 = .ok (.aload_n 0, 1) := by decide +kernel
theorem dX1_retell_132 : decode cX1_retell 132 = .ok (.iconst 1, 1) := by decide +kernel
theorem dX1_retell_133 : decode cX1_retell 133 = .ok (.iload 6, 2) := by decide +kernel
theorem dX1_retell_135 : decode cX1_retell 135 = .ok (.iload 7, 2) := by decide +kernel
theorem dX1_retell_137 : decode cX1_retell 137 = .ok (.iload 8, 2) := by decide +kernel
theorem dX1_retell_139 : decode cX1_retell 139 = .ok (.invokevirtual 47, 3) := by decide +kernel
theorem dX1_retell_142 : decode cX1_retell 142 = .ok (.iinc 8 1, 3) := by decide +kernel
theorem dX1_retell_145 : decode cX1_retell 145 = .ok (.goto (-32), 3) := by decide +kernel
theorem dX1_retell_148 : decode cX1_retell 148 = .ok (.iinc 7 1, 3) := by decide +kernel
theorem dX1_retell_151 : decode cX1_retell 151 = .ok (.goto (-48), 3) := by decide +kernel
theorem dX1_retell_154 : decode cX1_retell 154 = .ok (.aload_n 0, 1) := by decide +kernel
theorem dX1_retell_155 : decode cX1_retell 155 = .ok (.getfield 22, 3) := by decide +kernel
theorem dX1_retell_158 : decode cX1_retell 158 = .ok (.invokevirtual 51, 3) := by decide +kernel
theorem dX1_retell_161 : decode cX1_retell 161 = .ok (.iinc 6 1, 3) := by decide +kernel
theorem dX1_retell_164 : decode cX1_retell 164 = .ok (.goto (-73), 3) := by decide +kernel
theorem dX1_retell_167 : decode cX1_retell 167 = .ok (.return_, 1) := by decide +kernel
set_option maxRecDepth 20000 in
theorem ggX1_goOn_X0_at : GoodIn wsX1_goOn wsX0_at := goodIn_r _ [12, 13, 14, 15, 11, 16, 42] (by decide +kernel) (by decide +kernel)
set_option maxRecDepth 20000 in
theorem gX1_goOn_X0_at : GoodIn wsX1_goOn (wsV RX1 57 RX0 yX0_at wsX0_at) := goodIn_app (goodIn_of _ (by decide +kernel)) ggX1_goOn_X0_at
set_option maxRecDepth 20000 in
theorem ggX1_goOn_X5_lawStops : GoodIn wsX1_goOn wsX5_lawStops := goodIn_r _ [19] (by decide +kernel) (by decide +kernel)
set_option maxRecDepth 20000 in
theorem gX1_goOn_X5_lawStops_n61 : GoodIn wsX1_goOn (wsX5_lawStops) := ggX1_goOn_X5_lawStops
set_option maxRecDepth 20000 in
theorem ggX1_goOn_X0_add : GoodIn wsX1_goOn wsX0_add := goodIn_r _ [23, 13, 14, 15, 11, 16, 42] (by decide +kernel) (by decide +kernel)
set_option maxRecDepth 20000 in
theorem gX1_goOn_X0_add : GoodIn wsX1_goOn (wsV RX1 69 RX0 yX0_add wsX0_add) := goodIn_app (goodIn_of _ (by decide +kernel)) ggX1_goOn_X0_add
set_option maxRecDepth 20000 in
theorem ggX1_goOn_X5_chanceOfOne : GoodIn wsX1_goOn wsX5_chanceOfOne := goodIn_r _ [25, 26, 27, 28, 29, 30, 31, 32] (by decide +kernel) (by decide +kernel)
set_option maxRecDepth 20000 in
theorem gX1_goOn_X5_chanceOfOne_n73 : GoodIn wsX1_goOn (wsX5_chanceOfOne) := ggX1_goOn_X5_chanceOfOne
theorem dX1_goOn_0 : decode cX1_goOn 0 = .ok (.aload_n 0, 1) := by decide +kernel
theorem dX1_goOn_1 : decode cX1_goOn 1 = .ok (.getfield 22, 3) := by decide +kernel
theorem dX1_goOn_4 : decode cX1_goOn 4 = .ok (.getfield 54, 3) := by decide +kernel
theorem dX1_goOn_7 : decode cX1_goOn 7 = .ok (.iload_n 1, 1) := by decide +kernel
theorem dX1_goOn_8 : decode cX1_goOn 8 = .ok (.iload_n 3, 1) := by decide +kernel
theorem dX1_goOn_9 : decode cX1_goOn 9 = .ok (.iload 4, 2) := by decide +kernel
theorem dX1_goOn_11 : decode cX1_goOn 11 = .ok (.invokevirtual 57, 3) := by decide +kernel
theorem dX1_goOn_14 : decode cX1_goOn 14 = .ok (.lstore 5, 2) := by decide +kernel
theorem dX1_goOn_16 : decode cX1_goOn 16 = .ok (.lload 5, 2) := by decide +kernel
theorem dX1_goOn_18 : decode cX1_goOn 18 = .ok (.lconst 0, 1) := by decide +kernel
theorem dX1_goOn_19 : decode cX1_goOn 19 = .ok (.lcmp, 1) := by decide +kernel
theorem dX1_goOn_20 : decode cX1_goOn 20 = .ok (.ifCond .ne 4, 3) := by decide +kernel
theorem dX1_goOn_23 : decode cX1_goOn 23 = .ok (.return_, 1) := by decide +kernel
theorem dX1_goOn_24 : decode cX1_goOn 24 = .ok (.iload_n 2, 1) := by decide +kernel
theorem dX1_goOn_25 : decode cX1_goOn 25 = .ok (.iload_n 3, 1) := by decide +kernel
theorem dX1_goOn_26 : decode cX1_goOn 26 = .ok (.isub, 1) := by decide +kernel
theorem dX1_goOn_27 : decode cX1_goOn 27 = .ok (.istore 7, 2) := by decide +kernel
theorem dX1_goOn_29 : decode cX1_goOn 29 = .ok (.iload_n 2, 1) := by decide +kernel
theorem dX1_goOn_30 : decode cX1_goOn 30 = .ok (.aload_n 0, 1) := by decide +kernel
theorem dX1_goOn_31 : decode cX1_goOn 31 = .ok (.getfield 29, 3) := by decide +kernel
theorem dX1_goOn_34 : decode cX1_goOn 34 = .ok (.if_icmp .ge 22, 3) := by decide +kernel
theorem dX1_goOn_37 : decode cX1_goOn 37 = .ok (.aload_n 0, 1) := by decide +kernel
theorem dX1_goOn_38 : decode cX1_goOn 38 = .ok (.getfield 18, 3) := by decide +kernel
theorem dX1_goOn_41 : decode cX1_goOn 41 = .ok (.aload_n 0, 1) := by decide +kernel
theorem dX1_goOn_42 : decode cX1_goOn 42 = .ok (.getfield 26, 3) := by decide +kernel
theorem dX1_goOn_45 : decode cX1_goOn 45 = .ok (.iload_n 3, 1) := by decide +kernel
theorem dX1_goOn_46 : decode cX1_goOn 46 = .ok (.iload 7, 2) := by decide +kernel
theorem dX1_goOn_48 : decode cX1_goOn 48 = .ok (.iload 4, 2) := by decide +kernel
theorem dX1_goOn_50 : decode cX1_goOn 50 = .ok (.invokestatic 61, 3) := by decide +kernel
theorem dX1_goOn_53 : decode cX1_goOn 53 = .ok (.ifCond .eq 43, 3) := by decide +kernel
theorem dX1_goOn_56 : decode cX1_goOn 56 = .ok (.iload_n 2, 1) := by decide +kernel
theorem dX1_goOn_57 : decode cX1_goOn 57 = .ok (.ifCond .lt 19, 3) := by decide +kernel
theorem dX1_goOn_60 : decode cX1_goOn 60 = .ok (.iload_n 2, 1) := by decide +kernel
theorem dX1_goOn_61 : decode cX1_goOn 61 = .ok (.getstatic 65, 3) := by decide +kernel
theorem dX1_goOn_64 : decode cX1_goOn 64 = .ok (.arraylength, 1) := by decide +kernel
theorem dX1_goOn_65 : decode cX1_goOn 65 = .ok (.if_icmp .ge 11, 3) := by decide +kernel
theorem dX1_goOn_68 : decode cX1_goOn 68 = .ok (.getstatic 65, 3) := by decide +kernel
theorem dX1_goOn_71 : decode cX1_goOn 71 = .ok (.iload_n 2, 1) := by decide +kernel
theorem dX1_goOn_72 : decode cX1_goOn 72 = .ok (.laload, 1) := by decide +kernel
theorem dX1_goOn_73 : decode cX1_goOn 73 = .ok (.goto 4, 3) := by decide +kernel
theorem dX1_goOn_76 : decode cX1_goOn 76 = .ok (.lconst 0, 1) := by decide +kernel
theorem dX1_goOn_77 : decode cX1_goOn 77 = .ok (.lstore 8, 2) := by decide +kernel
theorem dX1_goOn_79 : decode cX1_goOn 79 = .ok (.aload_n 0, 1) := by decide +kernel
theorem dX1_goOn_80 : decode cX1_goOn 80 = .ok (.getfield 12, 3) := by decide +kernel
theorem dX1_goOn_83 : decode cX1_goOn 83 = .ok (.iload_n 1, 1) := by decide +kernel
theorem dX1_goOn_84 : decode cX1_goOn 84 = .ok (.iload_n 3, 1) := by decide +kernel
theorem dX1_goOn_85 : decode cX1_goOn 85 = .ok (.iload 7, 2) := by decide +kernel
theorem dX1_goOn_87 : decode cX1_goOn 87 = .ok (.lload 5, 2) := by decide +kernel
theorem dX1_goOn_89 : decode cX1_goOn 89 = .ok (.lload 8, 2) := by decide +kernel
theorem dX1_goOn_91 : decode cX1_goOn 91 = .ok (.lmul, 1) := by decide +kernel
theorem dX1_goOn_92 : decode cX1_goOn 92 = .ok (.invokevirtual 69, 3) := by decide +kernel
theorem dX1_goOn_95 : decode cX1_goOn 95 = .ok (.return_, 1) := by decide +kernel
theorem dX1_goOn_96 : decode cX1_goOn 96 = .ok (.aload_n 0, 1) := by decide +kernel
theorem dX1_goOn_97 : decode cX1_goOn 97 = .ok (.getfield 32, 3) := by decide +kernel
theorem dX1_goOn_100 : decode cX1_goOn 100 = .ok (.aload_n 0, 1) := by decide +kernel
theorem dX1_goOn_101 : decode cX1_goOn 101 = .ok (.getfield 35, 3) := by decide +kernel
theorem dX1_goOn_104 : decode cX1_goOn 104 = .ok (.iload_n 2, 1) := by decide +kernel
theorem dX1_goOn_105 : decode cX1_goOn 105 = .ok (.iload 4, 2) := by decide +kernel
theorem dX1_goOn_107 : decode cX1_goOn 107 = .ok (.invokestatic 73, 3) := by decide +kernel
theorem dX1_goOn_110 : decode cX1_goOn 110 = .ok (.istore 8, 2) := by decide +kernel
theorem dX1_goOn_112 : decode cX1_goOn 112 = .ok (.aload_n 0, 1) := by decide +kernel
theorem dX1_goOn_113 : decode cX1_goOn 113 = .ok (.getfield 22, 3) := by decide +kernel
theorem dX1_goOn_116 : decode cX1_goOn 116 = .ok (.getfield 77, 3) := by decide +kernel
theorem dX1_goOn_119 : decode cX1_goOn 119 = .ok (.iload_n 1, 1) := by decide +kernel
theorem dX1_goOn_120 : decode cX1_goOn 120 = .ok (.iload_n 3, 1) := by decide +kernel
theorem dX1_goOn_121 : decode cX1_goOn 121 = .ok (.iconst 1, 1) := by decide +kernel
theorem dX1_goOn_122 : decode cX1_goOn 122 = .ok (.iadd, 1) := by decide +kernel
theorem dX1_goOn_123 : decode cX1_goOn 123 = .ok (.iload 4, 2) := by decide +kernel
theorem dX1_goOn_125 : decode cX1_goOn 125 = .ok (.iconst 1, 1) := by decide +kernel
theorem dX1_goOn_126 : decode cX1_goOn 126 = .ok (.iadd, 1) := by decide +kernel
theorem dX1_goOn_127 : decode cX1_goOn 127 = .ok (.lload 5, 2) := by decide +kernel
theorem dX1_goOn_129 : decode cX1_goOn 129 = .ok (.iload 8, 2) := by decide +kernel
theorem dX1_goOn_131 : decode cX1_goOn 131 = .ok (.i2l, 1) := by decide +kernel
theorem dX1_goOn_132 : decode cX1_goOn 132 = .ok (.lmul, 1) := by decide +kernel
theorem dX1_goOn_133 : decode cX1_goOn 133 = .ok (.invokevirtual 69, 3) := by decide +kernel
theorem dX1_goOn_136 : decode cX1_goOn 136 = .ok (.aload_n 0, 1) := by decide +kernel
theorem dX1_goOn_137 : decode cX1_goOn 137 = .ok (.getfield 22, 3) := by decide +kernel
theorem dX1_goOn_140 : decode cX1_goOn 140 = .ok (.getfield 77, 3) := by decide +kernel
theorem dX1_goOn_143 : decode cX1_goOn 143 = .ok (.iload_n 1, 1) := by decide +kernel
theorem dX1_goOn_144 : decode cX1_goOn 144 = .ok (.iload_n 3, 1) := by decide +kernel
theorem dX1_goOn_145 : decode cX1_goOn 145 = .ok (.iconst 0, 1) := by decide +kernel
theorem dX1_goOn_146 : decode cX1_goOn 146 = .ok (.lload 5, 2) := by decide +kernel
theorem dX1_goOn_148 : decode cX1_goOn 148 = .ok (.bipush 12, 2) := by decide +kernel
theorem dX1_goOn_150 : decode cX1_goOn 150 = .ok (.iload 8, 2) := by decide +kernel
theorem dX1_goOn_152 : decode cX1_goOn 152 = .ok (.isub, 1) := by decide +kernel
theorem dX1_goOn_153 : decode cX1_goOn 153 = .ok (.i2l, 1) := by decide +kernel
theorem dX1_goOn_154 : decode cX1_goOn 154 = .ok (.lmul, 1) := by decide +kernel
theorem dX1_goOn_155 : decode cX1_goOn 155 = .ok (.invokevirtual 69, 3) := by decide +kernel
theorem dX1_goOn_158 : decode cX1_goOn 158 = .ok (.return_, 1) := by decide +kernel
set_option maxRecDepth 20000 in
theorem ggX1_families_X0_at : GoodIn wsX1_families wsX0_at := goodIn_r _ [6, 7, 8, 9, 5, 10, 18] (by decide +kernel) (by decide +kernel)
set_option maxRecDepth 20000 in
theorem gX1_families_X0_at : GoodIn wsX1_families (wsV RX1 57 RX0 yX0_at wsX0_at) := goodIn_app (goodIn_of _ (by decide +kernel)) ggX1_families_X0_at
theorem dX1_families_0 : decode cX1_families 0 = .ok (.aload_n 0, 1) := by decide +kernel
theorem dX1_families_1 : decode cX1_families 1 = .ok (.getfield 12, 3) := by decide +kernel
theorem dX1_families_4 : decode cX1_families 4 = .ok (.iconst 0, 1) := by decide +kernel
theorem dX1_families_5 : decode cX1_families 5 = .ok (.iload_n 1, 1) := by decide +kernel
theorem dX1_families_6 : decode cX1_families 6 = .ok (.iload_n 2, 1) := by decide +kernel
theorem dX1_families_7 : decode cX1_families 7 = .ok (.invokevirtual 57, 3) := by decide +kernel
theorem dX1_families_10 : decode cX1_families 10 = .ok (.aload_n 0, 1) := by decide +kernel
theorem dX1_families_11 : decode cX1_families 11 = .ok (.getfield 12, 3) := by decide +kernel
theorem dX1_families_14 : decode cX1_families 14 = .ok (.iconst 1, 1) := by decide +kernel
theorem dX1_families_15 : decode cX1_families 15 = .ok (.iload_n 1, 1) := by decide +kernel
theorem dX1_families_16 : decode cX1_families 16 = .ok (.iload_n 2, 1) := by decide +kernel
theorem dX1_families_17 : decode cX1_families 17 = .ok (.invokevirtual 57, 3) := by decide +kernel
theorem dX1_families_20 : decode cX1_families 20 = .ok (.ladd, 1) := by decide +kernel
theorem dX1_families_21 : decode cX1_families 21 = .ok (.lreturn, 1) := by decide +kernel
set_option maxRecDepth 20000 in
theorem ggX1_familiesFrom_X0_at : GoodIn wsX1_familiesFrom wsX0_at := goodIn_r _ [6, 7, 8, 9, 5, 10, 18] (by decide +kernel) (by decide +kernel)
set_option maxRecDepth 20000 in
theorem gX1_familiesFrom_X0_at : GoodIn wsX1_familiesFrom (wsV RX1 57 RX0 yX0_at wsX0_at) := goodIn_app (goodIn_of _ (by decide +kernel)) ggX1_familiesFrom_X0_at
theorem dX1_familiesFrom_0 : decode cX1_familiesFrom 0 = .ok (.aload_n 0, 1) := by decide +kernel
theorem dX1_familiesFrom_1 : decode cX1_familiesFrom 1 = .ok (.getfield 12, 3) := by decide +kernel
theorem dX1_familiesFrom_4 : decode cX1_familiesFrom 4 = .ok (.iload_n 1, 1) := by decide +kernel
theorem dX1_familiesFrom_5 : decode cX1_familiesFrom 5 = .ok (.iload_n 2, 1) := by decide +kernel
theorem dX1_familiesFrom_6 : decode cX1_familiesFrom 6 = .ok (.iload_n 3, 1) := by decide +kernel
theorem dX1_familiesFrom_7 : decode cX1_familiesFrom 7 = .ok (.invokevirtual 57, 3) := by decide +kernel
theorem dX1_familiesFrom_10 : decode cX1_familiesFrom 10 = .ok (.lreturn, 1) := by decide +kernel
set_option maxRecDepth 20000 in
theorem ggX1_sum_X1_families : GoodIn wsX1_sum wsX1_families := goodIn_r _ [6, 7, 8, 9, 10, 11, 12, 13, 14, 15, 16, 20, 21, 22, 23, 24, 25, 26, 27] (by decide +kernel) (by decide +kernel)
set_option maxRecDepth 20000 in
theorem gX1_sum_X1_families : GoodIn wsX1_sum (wsV RX1 80 RX1 yX1_families wsX1_families) := goodIn_app (goodIn_of _ (by decide +kernel)) ggX1_sum_X1_families
set_option maxRecDepth 20000 in
theorem ggX1_sum_X1_measured : GoodIn wsX1_sum wsX1_measured := goodIn_r _ [19] (by decide +kernel) (by decide +kernel)
set_option maxRecDepth 20000 in
theorem gX1_sum_X1_measured : GoodIn wsX1_sum (va_wsS RX1 84 yX1_measured wsX1_measured) := goodIn_app (goodIn_of _ (by decide +kernel)) ggX1_sum_X1_measured
theorem dX1_sum_0 : decode cX1_sum 0 = .ok (.lconst 0, 1) := by decide +kernel
theorem dX1_sum_1 : decode cX1_sum 1 = .ok (.lstore_n 3, 1) := by decide +kernel
theorem dX1_sum_2 : decode cX1_sum 2 = .ok (.iconst 0, 1) := by decide +kernel
theorem dX1_sum_3 : decode cX1_sum 3 = .ok (.istore 5, 2) := by decide +kernel
theorem dX1_sum_5 : decode cX1_sum 5 = .ok (.iload 5, 2) := by decide +kernel
theorem dX1_sum_7 : decode cX1_sum 7 = .ok (.aload_n 0, 1) := by decide +kernel
theorem dX1_sum_8 : decode cX1_sum 8 = .ok (.getfield 29, 3) := by decide +kernel
theorem dX1_sum_11 : decode cX1_sum 11 = .ok (.if_icmp .gt 62, 3) := by decide +kernel
theorem dX1_sum_14 : decode cX1_sum 14 = .ok (.iconst 0, 1) := by decide +kernel
theorem dX1_sum_15 : decode cX1_sum 15 = .ok (.istore 6, 2) := by decide +kernel
theorem dX1_sum_17 : decode cX1_sum 17 = .ok (.iload 6, 2) := by decide +kernel
theorem dX1_sum_19 : decode cX1_sum 19 = .ok (.aload_n 0, 1) := by decide +kernel
theorem dX1_sum_20 : decode cX1_sum 20 = .ok (.getfield 29, 3) := by decide +kernel
theorem dX1_sum_23 : decode cX1_sum 23 = .ok (.iload 5, 2) := by decide +kernel
theorem dX1_sum_25 : decode cX1_sum 25 = .ok (.isub, 1) := by decide +kernel
theorem dX1_sum_26 : decode cX1_sum 26 = .ok (.if_icmp .gt 41, 3) := by decide +kernel
theorem dX1_sum_29 : decode cX1_sum 29 = .ok (.aload_n 0, 1) := by decide +kernel
theorem dX1_sum_30 : decode cX1_sum 30 = .ok (.iload 5, 2) := by decide +kernel
theorem dX1_sum_32 : decode cX1_sum 32 = .ok (.iload 6, 2) := by decide +kernel
theorem dX1_sum_34 : decode cX1_sum 34 = .ok (.invokevirtual 80, 3) := by decide +kernel
theorem dX1_sum_37 : decode cX1_sum 37 = .ok (.lstore 7, 2) := by decide +kernel
theorem dX1_sum_39 : decode cX1_sum 39 = .ok (.lload 7, 2) := by decide +kernel
theorem dX1_sum_41 : decode cX1_sum 41 = .ok (.lconst 0, 1) := by decide +kernel
theorem dX1_sum_42 : decode cX1_sum 42 = .ok (.lcmp, 1) := by decide +kernel
theorem dX1_sum_43 : decode cX1_sum 43 = .ok (.ifCond .eq 18, 3) := by decide +kernel
theorem dX1_sum_46 : decode cX1_sum 46 = .ok (.lload_n 3, 1) := by decide +kernel
theorem dX1_sum_47 : decode cX1_sum 47 = .ok (.lload 7, 2) := by decide +kernel
theorem dX1_sum_49 : decode cX1_sum 49 = .ok (.iload_n 1, 1) := by decide +kernel
theorem dX1_sum_50 : decode cX1_sum 50 = .ok (.iload_n 2, 1) := by decide +kernel
theorem dX1_sum_51 : decode cX1_sum 51 = .ok (.iload 5, 2) := by decide +kernel
theorem dX1_sum_53 : decode cX1_sum 53 = .ok (.iload 6, 2) := by decide +kernel
theorem dX1_sum_55 : decode cX1_sum 55 = .ok (.invokestatic 84, 3) := by decide +kernel
theorem dX1_sum_58 : decode cX1_sum 58 = .ok (.lmul, 1) := by decide +kernel
theorem dX1_sum_59 : decode cX1_sum 59 = .ok (.ladd, 1) := by decide +kernel
theorem dX1_sum_60 : decode cX1_sum 60 = .ok (.lstore_n 3, 1) := by decide +kernel
theorem dX1_sum_61 : decode cX1_sum 61 = .ok (.iinc 6 1, 3) := by decide +kernel
theorem dX1_sum_64 : decode cX1_sum 64 = .ok (.goto (-47), 3) := by decide +kernel
theorem dX1_sum_67 : decode cX1_sum 67 = .ok (.iinc 5 1, 3) := by decide +kernel
theorem dX1_sum_70 : decode cX1_sum 70 = .ok (.goto (-65), 3) := by decide +kernel
theorem dX1_sum_73 : decode cX1_sum 73 = .ok (.lload_n 3, 1) := by decide +kernel
theorem dX1_sum_74 : decode cX1_sum 74 = .ok (.lreturn, 1) := by decide +kernel
theorem dX1_measured_0 : decode cX1_measured 0 = .ok (.iload_n 2, 1) := by decide +kernel
theorem dX1_measured_1 : decode cX1_measured 1 = .ok (.iload_n 3, 1) := by decide +kernel
theorem dX1_measured_2 : decode cX1_measured 2 = .ok (.iadd, 1) := by decide +kernel
theorem dX1_measured_3 : decode cX1_measured 3 = .ok (.istore 4, 2) := by decide +kernel
theorem dX1_measured_5 : decode cX1_measured 5 = .ok (.iload_n 0, 1) := by decide +kernel
theorem dX1_measured_6 : decode cX1_measured 6 = .ok (.tableswitch 170 0 10 #[58, 62, 65, 68, 79, 90, 101, 120, 132, 145, 157], 58) := by decide +kernel
theorem dX1_measured_64 : decode cX1_measured 64 = .ok (.iload 4, 2) := by decide +kernel
theorem dX1_measured_66 : decode cX1_measured 66 = .ok (.i2l, 1) := by decide +kernel
theorem dX1_measured_67 : decode cX1_measured 67 = .ok (.lreturn, 1) := by decide +kernel
theorem dX1_measured_68 : decode cX1_measured 68 = .ok (.iload_n 2, 1) := by decide +kernel
theorem dX1_measured_69 : decode cX1_measured 69 = .ok (.i2l, 1) := by decide +kernel
theorem dX1_measured_70 : decode cX1_measured 70 = .ok (.lreturn, 1) := by decide +kernel
theorem dX1_measured_71 : decode cX1_measured 71 = .ok (.iload_n 3, 1) := by decide +kernel
theorem dX1_measured_72 : decode cX1_measured 72 = .ok (.i2l, 1) := by decide +kernel
theorem dX1_measured_73 : decode cX1_measured 73 = .ok (.lreturn, 1) := by decide +kernel
theorem dX1_measured_74 : decode cX1_measured 74 = .ok (.iload_n 2, 1) := by decide +kernel
theorem dX1_measured_75 : decode cX1_measured 75 = .ok (.iload_n 3, 1) := by decide +kernel
theorem dX1_measured_76 : decode cX1_measured 76 = .ok (.if_icmp .le 7, 3) := by decide +kernel
theorem dX1_measured_79 : decode cX1_measured 79 = .ok (.lconst 1, 1) := by decide +kernel
theorem dX1_measured_80 : decode cX1_measured 80 = .ok (.goto 4, 3) := by decide +kernel
theorem dX1_measured_83 : decode cX1_measured 83 = .ok (.lconst 0, 1) := by decide +kernel
theorem dX1_measured_84 : decode cX1_measured 84 = .ok (.lreturn, 1) := by decide +kernel
theorem dX1_measured_85 : decode cX1_measured 85 = .ok (.iload_n 2, 1) := by decide +kernel
theorem dX1_measured_86 : decode cX1_measured 86 = .ok (.iload_n 3, 1) := by decide +kernel
theorem dX1_measured_87 : decode cX1_measured 87 = .ok (.if_icmp .ne 7, 3) := by decide +kernel
theorem dX1_measured_90 : decode cX1_measured 90 = .ok (.lconst 1, 1) := by decide +kernel
theorem dX1_measured_91 : decode cX1_measured 91 = .ok (.goto 4, 3) := by decide +kernel
theorem dX1_measured_94 : decode cX1_measured 94 = .ok (.lconst 0, 1) := by decide +kernel
theorem dX1_measured_95 : decode cX1_measured 95 = .ok (.lreturn, 1) := by decide +kernel
theorem dX1_measured_96 : decode cX1_measured 96 = .ok (.iload_n 2, 1) := by decide +kernel
theorem dX1_measured_97 : decode cX1_measured 97 = .ok (.iload_n 3, 1) := by decide +kernel
theorem dX1_measured_98 : decode cX1_measured 98 = .ok (.if_icmp .ge 7, 3) := by decide +kernel
theorem dX1_measured_101 : decode cX1_measured 101 = .ok (.lconst 1, 1) := by decide +kernel
theorem dX1_measured_102 : decode cX1_measured 102 = .ok (.goto 4, 3) := by decide +kernel
theorem dX1_measured_105 : decode cX1_measured 105 = .ok (.lconst 0, 1) := by decide +kernel
theorem dX1_measured_106 : decode cX1_measured 106 = .ok (.lreturn, 1) := by decide +kernel
theorem dX1_measured_107 : decode cX1_measured 107 = .ok (.iload 4, 2) := by decide +kernel
theorem dX1_measured_109 : decode cX1_measured 109 = .ok (.ifCond .ne 7, 3) := by decide +kernel
theorem dX1_measured_112 : decode cX1_measured 112 = .ok (.lconst 0, 1) := by decide +kernel
theorem dX1_measured_113 : decode cX1_measured 113 = .ok (.goto 12, 3) := by decide +kernel
theorem dX1_measured_116 : decode cX1_measured 116 = .ok (.iload_n 2, 1) := by decide +kernel
theorem dX1_measured_117 : decode cX1_measured 117 = .ok (.sipush 2520, 3) := by decide +kernel
theorem dX1_measured_120 : decode cX1_measured 120 = .ok (.iload 4, 2) := by decide +kernel
theorem dX1_measured_122 : decode cX1_measured 122 = .ok (.idiv, 1) := by decide +kernel
theorem dX1_measured_123 : decode cX1_measured 123 = .ok (.imul, 1) := by decide +kernel
theorem dX1_measured_124 : decode cX1_measured 124 = .ok (.i2l, 1) := by decide +kernel
theorem dX1_measured_125 : decode cX1_measured 125 = .ok (.lreturn, 1) := by decide +kernel
theorem dX1_measured_126 : decode cX1_measured 126 = .ok (.iload 4, 2) := by decide +kernel
theorem dX1_measured_128 : decode cX1_measured 128 = .ok (.iload_n 1, 1) := by decide +kernel
theorem dX1_measured_129 : decode cX1_measured 129 = .ok (.if_icmp .ne 7, 3) := by decide +kernel
theorem dX1_measured_132 : decode cX1_measured 132 = .ok (.lconst 1, 1) := by decide +kernel
theorem dX1_measured_133 : decode cX1_measured 133 = .ok (.goto 4, 3) := by decide +kernel
theorem dX1_measured_136 : decode cX1_measured 136 = .ok (.lconst 0, 1) := by decide +kernel
theorem dX1_measured_137 : decode cX1_measured 137 = .ok (.lreturn, 1) := by decide +kernel
theorem dX1_measured_138 : decode cX1_measured 138 = .ok (.iload_n 2, 1) := by decide +kernel
theorem dX1_measured_139 : decode cX1_measured 139 = .ok (.iload_n 3, 1) := by decide +kernel
theorem dX1_measured_140 : decode cX1_measured 140 = .ok (.if_icmp .le 9, 3) := by decide +kernel
theorem dX1_measured_143 : decode cX1_measured 143 = .ok (.iload 4, 2) := by decide +kernel
theorem dX1_measured_145 : decode cX1_measured 145 = .ok (.i2l, 1) := by decide +kernel
theorem dX1_measured_146 : decode cX1_measured 146 = .ok (.goto 4, 3) := by decide +kernel
theorem dX1_measured_149 : decode cX1_measured 149 = .ok (.lconst 0, 1) := by decide +kernel
theorem dX1_measured_150 : decode cX1_measured 150 = .ok (.lreturn, 1) := by decide +kernel
theorem dX1_measured_151 : decode cX1_measured 151 = .ok (.iload_n 2, 1) := by decide +kernel
theorem dX1_measured_152 : decode cX1_measured 152 = .ok (.iconst 1, 1) := by decide +kernel
theorem dX1_measured_153 : decode cX1_measured 153 = .ok (.if_icmp .le 8, 3) := by decide +kernel
theorem dX1_measured_156 : decode cX1_measured 156 = .ok (.iload_n 2, 1) := by decide +kernel
theorem dX1_measured_157 : decode cX1_measured 157 = .ok (.i2l, 1) := by decide +kernel
theorem dX1_measured_158 : decode cX1_measured 158 = .ok (.goto 4, 3) := by decide +kernel
theorem dX1_measured_161 : decode cX1_measured 161 = .ok (.lconst 0, 1) := by decide +kernel
theorem dX1_measured_162 : decode cX1_measured 162 = .ok (.lreturn, 1) := by decide +kernel
theorem dX1_measured_163 : decode cX1_measured 163 = .ok (.iload_n 2, 1) := by decide +kernel
theorem dX1_measured_164 : decode cX1_measured 164 = .ok (.iload_n 3, 1) := by decide +kernel
theorem dX1_measured_165 : decode cX1_measured 165 = .ok (.isub, 1) := by decide +kernel
theorem dX1_measured_166 : decode cX1_measured 166 = .ok (.iload_n 1, 1) := by decide +kernel
theorem dX1_measured_167 : decode cX1_measured 167 = .ok (.if_icmp .ne 7, 3) := by decide +kernel
theorem dX1_measured_170 : decode cX1_measured 170 = .ok (.lconst 1, 1) := by decide +kernel
theorem dX1_measured_171 : decode cX1_measured 171 = .ok (.goto 4, 3) := by decide +kernel
theorem dX1_measured_174 : decode cX1_measured 174 = .ok (.lconst 0, 1) := by decide +kernel
theorem dX1_measured_175 : decode cX1_measured 175 = .ok (.lreturn, 1) := by decide +kernel
theorem dX1_measured_176 : decode cX1_measured 176 = .ok (.lconst 0, 1) := by decide +kernel
theorem dX1_measured_177 : decode cX1_measured 177 = .ok (.lreturn, 1) := by decide +kernel
theorem dX2_init_0 : decode cX2_init 0 = .ok (.aload_n 0, 1) := by decide +kernel
theorem dX2_init_1 : decode cX2_init 1 = .ok (.invokespecial 3, 3) := by decide +kernel
theorem dX2_init_4 : decode cX2_init 4 = .ok (.aload_n 0, 1) := by decide +kernel
theorem dX2_init_5 : decode cX2_init 5 = .ok (.bipush 64, 2) := by decide +kernel
theorem dX2_init_7 : decode cX2_init 7 = .ok (.newarray .int, 2) := by decide +kernel
theorem dX2_init_9 : decode cX2_init 9 = .ok (.putfield 9, 3) := by decide +kernel
theorem dX2_init_12 : decode cX2_init 12 = .ok (.return_, 1) := by decide +kernel
theorem dX2_append_0 : decode cX2_append 0 = .ok (.aload_n 0, 1) := by decide +kernel
theorem dX2_append_1 : decode cX2_append 1 = .ok (.getfield 15, 3) := by decide +kernel
theorem dX2_append_4 : decode cX2_append 4 = .ok (.ifCond .lt 35, 3) := by decide +kernel
theorem dX2_append_7 : decode cX2_append 7 = .ok (.aload_n 0, 1) := by decide +kernel
theorem dX2_append_8 : decode cX2_append 8 = .ok (.getfield 15, 3) := by decide +kernel
theorem dX2_append_11 : decode cX2_append 11 = .ok (.aload_n 0, 1) := by decide +kernel
theorem dX2_append_12 : decode cX2_append 12 = .ok (.getfield 9, 3) := by decide +kernel
theorem dX2_append_15 : decode cX2_append 15 = .ok (.arraylength, 1) := by decide +kernel
theorem dX2_append_16 : decode cX2_append 16 = .ok (.if_icmp .ge 23, 3) := by decide +kernel
theorem dX2_append_19 : decode cX2_append 19 = .ok (.aload_n 0, 1) := by decide +kernel
theorem dX2_append_20 : decode cX2_append 20 = .ok (.getfield 9, 3) := by decide +kernel
theorem dX2_append_23 : decode cX2_append 23 = .ok (.aload_n 0, 1) := by decide +kernel
theorem dX2_append_24 : decode cX2_append 24 = .ok (.getfield 15, 3) := by decide +kernel
theorem dX2_append_27 : decode cX2_append 27 = .ok (.iload_n 1, 1) := by decide +kernel
theorem dX2_append_28 : decode cX2_append 28 = .ok (.iastore, 1) := by decide +kernel
theorem dX2_append_29 : decode cX2_append 29 = .ok (.aload_n 0, 1) := by decide +kernel
theorem dX2_append_30 : decode cX2_append 30 = .ok (.dup, 1) := by decide +kernel
theorem dX2_append_31 : decode cX2_append 31 = .ok (.getfield 15, 3) := by decide +kernel
theorem dX2_append_34 : decode cX2_append 34 = .ok (.iconst 1, 1) := by decide +kernel
theorem dX2_append_35 : decode cX2_append 35 = .ok (.iadd, 1) := by decide +kernel
theorem dX2_append_36 : decode cX2_append 36 = .ok (.putfield 15, 3) := by decide +kernel
theorem dX2_append_39 : decode cX2_append 39 = .ok (.return_, 1) := by decide +kernel
theorem dX2_at_0 : decode cX2_at 0 = .ok (.iload_n 1, 1) := by decide +kernel
theorem dX2_at_1 : decode cX2_at 1 = .ok (.ifCond .lt 29, 3) := by decide +kernel
theorem dX2_at_4 : decode cX2_at 4 = .ok (.iload_n 1, 1) := by decide +kernel
theorem dX2_at_5 : decode cX2_at 5 = .ok (.aload_n 0, 1) := by decide +kernel
theorem dX2_at_6 : decode cX2_at 6 = .ok (.getfield 15, 3) := by decide +kernel
theorem dX2_at_9 : decode cX2_at 9 = .ok (.if_icmp .ge 21, 3) := by decide +kernel
theorem dX2_at_12 : decode cX2_at 12 = .ok (.iload_n 1, 1) := by decide +kernel
theorem dX2_at_13 : decode cX2_at 13 = .ok (.aload_n 0, 1) := by decide +kernel
theorem dX2_at_14 : decode cX2_at 14 = .ok (.getfield 9, 3) := by decide +kernel
theorem dX2_at_17 : decode cX2_at 17 = .ok (.arraylength, 1) := by decide +kernel
theorem dX2_at_18 : decode cX2_at 18 = .ok (.if_icmp .ge 12, 3) := by decide +kernel
theorem dX2_at_21 : decode cX2_at 21 = .ok (.aload_n 0, 1) := by decide +kernel
theorem dX2_at_22 : decode cX2_at 22 = .ok (.getfield 9, 3) := by decide +kernel
theorem dX2_at_25 : decode cX2_at 25 = .ok (.iload_n 1, 1) := by decide +kernel
theorem dX2_at_26 : decode cX2_at 26 = .ok (.iaload, 1) := by decide +kernel
theorem dX2_at_27 : decode cX2_at 27 = .ok (.goto 4, 3) := by decide +kernel
theorem dX2_at_30 : decode cX2_at 30 = .ok (.iconst (-1), 1) := by decide +kernel
theorem dX2_at_31 : decode cX2_at 31 = .ok (.ireturn, 1) := by decide +kernel
set_option maxRecDepth 20000 in
theorem ggX2_firstFault_X2_endOfStatement : GoodIn wsX2_firstFault wsX2_endOfStatement := goodIn_r _ [6, 7, 8, 9, 5, 10, 1, 11, 12, 13, 14, 15, 16, 17, 18, 19, 20, 21, 22, 23, 24] (by decide +kernel) (by decide +kernel)
set_option maxRecDepth 20000 in
theorem gX2_firstFault_X2_endOfStatement : GoodIn wsX2_firstFault (wsV RX2 19 RX2 yX2_endOfStatement wsX2_endOfStatement) := goodIn_app (goodIn_of _ (by decide +kernel)) ggX2_firstFault_X2_endOfStatement
theorem dX2_firstFault_0 : decode cX2_firstFault 0 = .ok (.iconst 0, 1) := by decide +kernel
theorem dX2_firstFault_1 : decode cX2_firstFault 1 = .ok (.istore_n 1, 1) := by decide +kernel
theorem dX2_firstFault_2 : decode cX2_firstFault 2 = .ok (.iconst 0, 1) := by decide +kernel
theorem dX2_firstFault_3 : decode cX2_firstFault 3 = .ok (.istore_n 2, 1) := by decide +kernel
theorem dX2_firstFault_4 : decode cX2_firstFault 4 = .ok (.aload_n 0, 1) := by decide +kernel
theorem dX2_firstFault_5 : decode cX2_firstFault 5 = .ok (.iload_n 1, 1) := by decide +kernel
theorem dX2_firstFault_6 : decode cX2_firstFault 6 = .ok (.invokevirtual 19, 3) := by decide +kernel
theorem dX2_firstFault_9 : decode cX2_firstFault 9 = .ok (.istore_n 3, 1) := by decide +kernel
theorem dX2_firstFault_10 : decode cX2_firstFault 10 = .ok (.iload_n 3, 1) := by decide +kernel
theorem dX2_firstFault_11 : decode cX2_firstFault 11 = .ok (.ifCond .ge 7, 3) := by decide +kernel
theorem dX2_firstFault_14 : decode cX2_firstFault 14 = .ok (.iconst (-1), 1) := by decide +kernel
theorem dX2_firstFault_15 : decode cX2_firstFault 15 = .ok (.iload_n 3, 1) := by decide +kernel
theorem dX2_firstFault_16 : decode cX2_firstFault 16 = .ok (.isub, 1) := by decide +kernel
theorem dX2_firstFault_17 : decode cX2_firstFault 17 = .ok (.ireturn, 1) := by decide +kernel
theorem dX2_firstFault_18 : decode cX2_firstFault 18 = .ok (.iload_n 3, 1) := by decide +kernel
theorem dX2_firstFault_19 : decode cX2_firstFault 19 = .ok (.istore_n 1, 1) := by decide +kernel
theorem dX2_firstFault_20 : decode cX2_firstFault 20 = .ok (.iinc 2 1, 3) := by decide +kernel
theorem dX2_firstFault_23 : decode cX2_firstFault 23 = .ok (.iload_n 1, 1) := by decide +kernel
theorem dX2_firstFault_24 : decode cX2_firstFault 24 = .ok (.aload_n 0, 1) := by decide +kernel
theorem dX2_firstFault_25 : decode cX2_firstFault 25 = .ok (.getfield 15, 3) := by decide +kernel
theorem dX2_firstFault_28 : decode cX2_firstFault 28 = .ok (.if_icmp .ge 9, 3) := by decide +kernel
theorem dX2_firstFault_31 : decode cX2_firstFault 31 = .ok (.iload_n 2, 1) := by decide +kernel
theorem dX2_firstFault_32 : decode cX2_firstFault 32 = .ok (.bipush 64, 2) := by decide +kernel
theorem dX2_firstFault_34 : decode cX2_firstFault 34 = .ok (.if_icmp .lt (-30), 3) := by decide +kernel
theorem dX2_firstFault_37 : decode cX2_firstFault 37 = .ok (.iconst (-1), 1) := by decide +kernel
theorem dX2_firstFault_38 : decode cX2_firstFault 38 = .ok (.ireturn, 1) := by decide +kernel
set_option maxRecDepth 20000 in
theorem ggX2_endOfStatement_X2_at : GoodIn wsX2_endOfStatement wsX2_at := goodIn_r _ [5, 6, 7, 19, 20] (by decide +kernel) (by decide +kernel)
set_option maxRecDepth 20000 in
theorem gX2_endOfStatement_X2_at : GoodIn wsX2_endOfStatement (wsV RX2 23 RX2 yX2_at wsX2_at) := goodIn_app (goodIn_of _ (by decide +kernel)) ggX2_endOfStatement_X2_at
set_option maxRecDepth 20000 in
theorem ggX2_endOfStatement_X2_kindAt : GoodIn wsX2_endOfStatement wsX2_kindAt := goodIn_r _ [11, 1, 2, 3, 4, 5, 6, 7, 19, 20] (by decide +kernel) (by decide +kernel)
set_option maxRecDepth 20000 in
theorem gX2_endOfStatement_X2_kindAt : GoodIn wsX2_endOfStatement (wsV RX2 26 RX2 yX2_kindAt wsX2_kindAt) := goodIn_app (goodIn_of _ (by decide +kernel)) ggX2_endOfStatement_X2_kindAt
set_option maxRecDepth 20000 in
theorem ggX2_endOfStatement_X2_endOfDigits : GoodIn wsX2_endOfStatement wsX2_endOfDigits := goodIn_r _ [15, 1, 2, 3, 4, 5, 6, 7, 19, 20] (by decide +kernel) (by decide +kernel)
set_option maxRecDepth 20000 in
theorem gX2_endOfStatement_X2_endOfDigits : GoodIn wsX2_endOfStatement (wsV RX2 29 RX2 yX2_endOfDigits wsX2_endOfDigits) := goodIn_app (goodIn_of _ (by decide +kernel)) ggX2_endOfStatement_X2_endOfDigits
set_option maxRecDepth 20000 in
theorem ggX2_endOfStatement_X2_isSign : GoodIn wsX2_endOfStatement wsX2_isSign := goodIn_r _ [18] (by decide +kernel) (by decide +kernel)
set_option maxRecDepth 20000 in
theorem gX2_endOfStatement_X2_isSign : GoodIn wsX2_endOfStatement (va_wsS RX2 33 yX2_isSign wsX2_isSign) := goodIn_app (goodIn_of _ (by decide +kernel)) ggX2_endOfStatement_X2_isSign
theorem dX2_endOfStatement_0 : decode cX2_endOfStatement 0 = .ok (.aload_n 0, 1) := by decide +kernel
theorem dX2_endOfStatement_1 : decode cX2_endOfStatement 1 = .ok (.iload_n 1, 1) := by decide +kernel
theorem dX2_endOfStatement_2 : decode cX2_endOfStatement 2 = .ok (.invokevirtual 23, 3) := by decide +kernel
theorem dX2_endOfStatement_5 : decode cX2_endOfStatement 5 = .ok (.tableswitch 159 99 110 #[95, 159, 159, 144, 159, 159, 159, 159, 159, 63, 95, 109], 63) := by decide +kernel
theorem dX2_endOfStatement_68 : decode cX2_endOfStatement 68 = .ok (.aload_n 0, 1) := by decide +kernel
theorem dX2_endOfStatement_69 : decode cX2_endOfStatement 69 = .ok (.iload_n 1, 1) := by decide +kernel
theorem dX2_endOfStatement_70 : decode cX2_endOfStatement 70 = .ok (.iconst 1, 1) := by decide +kernel
theorem dX2_endOfStatement_71 : decode cX2_endOfStatement 71 = .ok (.iadd, 1) := by decide +kernel
theorem dX2_endOfStatement_72 : decode cX2_endOfStatement 72 = .ok (.invokevirtual 26, 3) := by decide +kernel
theorem dX2_endOfStatement_75 : decode cX2_endOfStatement 75 = .ok (.ifCond .ge 11, 3) := by decide +kernel
theorem dX2_endOfStatement_78 : decode cX2_endOfStatement 78 = .ok (.iconst (-1), 1) := by decide +kernel
theorem dX2_endOfStatement_79 : decode cX2_endOfStatement 79 = .ok (.iload_n 1, 1) := by decide +kernel
theorem dX2_endOfStatement_80 : decode cX2_endOfStatement 80 = .ok (.iconst 1, 1) := by decide +kernel
theorem dX2_endOfStatement_81 : decode cX2_endOfStatement 81 = .ok (.iadd, 1) := by decide +kernel
theorem dX2_endOfStatement_82 : decode cX2_endOfStatement 82 = .ok (.isub, 1) := by decide +kernel
theorem dX2_endOfStatement_83 : decode cX2_endOfStatement 83 = .ok (.goto 13, 3) := by decide +kernel
theorem dX2_endOfStatement_86 : decode cX2_endOfStatement 86 = .ok (.aload_n 0, 1) := by decide +kernel
theorem dX2_endOfStatement_87 : decode cX2_endOfStatement 87 = .ok (.iload_n 1, 1) := by decide +kernel
theorem dX2_endOfStatement_88 : decode cX2_endOfStatement 88 = .ok (.iconst 2, 1) := by decide +kernel
theorem dX2_endOfStatement_89 : decode cX2_endOfStatement 89 = .ok (.iadd, 1) := by decide +kernel
theorem dX2_endOfStatement_90 : decode cX2_endOfStatement 90 = .ok (.bipush 57, 2) := by decide +kernel
theorem dX2_endOfStatement_92 : decode cX2_endOfStatement 92 = .ok (.iconst 1, 1) := by decide +kernel
theorem dX2_endOfStatement_93 : decode cX2_endOfStatement 93 = .ok (.invokevirtual 29, 3) := by decide +kernel
theorem dX2_endOfStatement_96 : decode cX2_endOfStatement 96 = .ok (.istore_n 2, 1) := by decide +kernel
theorem dX2_endOfStatement_97 : decode cX2_endOfStatement 97 = .ok (.goto 71, 3) := by decide +kernel
theorem dX2_endOfStatement_100 : decode cX2_endOfStatement 100 = .ok (.aload_n 0, 1) := by decide +kernel
theorem dX2_endOfStatement_101 : decode cX2_endOfStatement 101 = .ok (.iload_n 1, 1) := by decide +kernel
theorem dX2_endOfStatement_102 : decode cX2_endOfStatement 102 = .ok (.iconst 1, 1) := by decide +kernel
theorem dX2_endOfStatement_103 : decode cX2_endOfStatement 103 = .ok (.iadd, 1) := by decide +kernel
theorem dX2_endOfStatement_104 : decode cX2_endOfStatement 104 = .ok (.bipush 57, 2) := by decide +kernel
theorem dX2_endOfStatement_106 : decode cX2_endOfStatement 106 = .ok (.iconst 2, 1) := by decide +kernel
theorem dX2_endOfStatement_107 : decode cX2_endOfStatement 107 = .ok (.invokevirtual 29, 3) := by decide +kernel
theorem dX2_endOfStatement_110 : decode cX2_endOfStatement 110 = .ok (.istore_n 2, 1) := by decide +kernel
theorem dX2_endOfStatement_111 : decode cX2_endOfStatement 111 = .ok (.goto 57, 3) := by decide +kernel
theorem dX2_endOfStatement_114 : decode cX2_endOfStatement 114 = .ok (.aload_n 0, 1) := by decide +kernel
theorem dX2_endOfStatement_115 : decode cX2_endOfStatement 115 = .ok (.iload_n 1, 1) := by decide +kernel
theorem dX2_endOfStatement_116 : decode cX2_endOfStatement 116 = .ok (.iconst 1, 1) := by decide +kernel
theorem dX2_endOfStatement_117 : decode cX2_endOfStatement 117 = .ok (.iadd, 1) := by decide +kernel
theorem dX2_endOfStatement_118 : decode cX2_endOfStatement 118 = .ok (.invokevirtual 23, 3) := by decide +kernel
theorem dX2_endOfStatement_121 : decode cX2_endOfStatement 121 = .ok (.invokestatic 33, 3) := by decide +kernel
theorem dX2_endOfStatement_124 : decode cX2_endOfStatement 124 = .ok (.ifCond .eq 16, 3) := by decide +kernel
theorem dX2_endOfStatement_127 : decode cX2_endOfStatement 127 = .ok (.aload_n 0, 1) := by decide +kernel
theorem dX2_endOfStatement_128 : decode cX2_endOfStatement 128 = .ok (.iload_n 1, 1) := by decide +kernel
theorem dX2_endOfStatement_129 : decode cX2_endOfStatement 129 = .ok (.iconst 2, 1) := by decide +kernel
theorem dX2_endOfStatement_130 : decode cX2_endOfStatement 130 = .ok (.iadd, 1) := by decide +kernel
theorem dX2_endOfStatement_131 : decode cX2_endOfStatement 131 = .ok (.bipush 57, 2) := by decide +kernel
theorem dX2_endOfStatement_133 : decode cX2_endOfStatement 133 = .ok (.iconst 1, 1) := by decide +kernel
theorem dX2_endOfStatement_134 : decode cX2_endOfStatement 134 = .ok (.invokevirtual 29, 3) := by decide +kernel
theorem dX2_endOfStatement_137 : decode cX2_endOfStatement 137 = .ok (.goto 8, 3) := by decide +kernel
theorem dX2_endOfStatement_140 : decode cX2_endOfStatement 140 = .ok (.iconst (-1), 1) := by decide +kernel
theorem dX2_endOfStatement_141 : decode cX2_endOfStatement 141 = .ok (.iload_n 1, 1) := by decide +kernel
theorem dX2_endOfStatement_142 : decode cX2_endOfStatement 142 = .ok (.iconst 1, 1) := by decide +kernel
theorem dX2_endOfStatement_143 : decode cX2_endOfStatement 143 = .ok (.iadd, 1) := by decide +kernel
theorem dX2_endOfStatement_144 : decode cX2_endOfStatement 144 = .ok (.isub, 1) := by decide +kernel
theorem dX2_endOfStatement_145 : decode cX2_endOfStatement 145 = .ok (.istore_n 2, 1) := by decide +kernel
theorem dX2_endOfStatement_146 : decode cX2_endOfStatement 146 = .ok (.goto 22, 3) := by decide +kernel
theorem dX2_endOfStatement_149 : decode cX2_endOfStatement 149 = .ok (.aload_n 0, 1) := by decide +kernel
theorem dX2_endOfStatement_150 : decode cX2_endOfStatement 150 = .ok (.iload_n 1, 1) := by decide +kernel
theorem dX2_endOfStatement_151 : decode cX2_endOfStatement 151 = .ok (.iconst 1, 1) := by decide +kernel
theorem dX2_endOfStatement_152 : decode cX2_endOfStatement 152 = .ok (.iadd, 1) := by decide +kernel
theorem dX2_endOfStatement_153 : decode cX2_endOfStatement 153 = .ok (.bipush 49, 2) := by decide +kernel
theorem dX2_endOfStatement_155 : decode cX2_endOfStatement 155 = .ok (.bipush 10, 2) := by decide +kernel
theorem dX2_endOfStatement_157 : decode cX2_endOfStatement 157 = .ok (.invokevirtual 29, 3) := by decide +kernel
theorem dX2_endOfStatement_160 : decode cX2_endOfStatement 160 = .ok (.istore_n 2, 1) := by decide +kernel
theorem dX2_endOfStatement_161 : decode cX2_endOfStatement 161 = .ok (.goto 7, 3) := by decide +kernel
theorem dX2_endOfStatement_164 : decode cX2_endOfStatement 164 = .ok (.iconst (-1), 1) := by decide +kernel
theorem dX2_endOfStatement_165 : decode cX2_endOfStatement 165 = .ok (.iload_n 1, 1) := by decide +kernel
theorem dX2_endOfStatement_166 : decode cX2_endOfStatement 166 = .ok (.isub, 1) := by decide +kernel
theorem dX2_endOfStatement_167 : decode cX2_endOfStatement 167 = .ok (.istore_n 2, 1) := by decide +kernel
theorem dX2_endOfStatement_168 : decode cX2_endOfStatement 168 = .ok (.iload_n 2, 1) := by decide +kernel
theorem dX2_endOfStatement_169 : decode cX2_endOfStatement 169 = .ok (.ifCond .ge 5, 3) := by decide +kernel
theorem dX2_endOfStatement_172 : decode cX2_endOfStatement 172 = .ok (.iload_n 2, 1) := by decide +kernel
theorem dX2_endOfStatement_173 : decode cX2_endOfStatement 173 = .ok (.ireturn, 1) := by decide +kernel
theorem dX2_endOfStatement_174 : decode cX2_endOfStatement 174 = .ok (.aload_n 0, 1) := by decide +kernel
theorem dX2_endOfStatement_175 : decode cX2_endOfStatement 175 = .ok (.iload_n 2, 1) := by decide +kernel
theorem dX2_endOfStatement_176 : decode cX2_endOfStatement 176 = .ok (.invokevirtual 23, 3) := by decide +kernel
theorem dX2_endOfStatement_179 : decode cX2_endOfStatement 179 = .ok (.bipush 59, 2) := by decide +kernel
theorem dX2_endOfStatement_181 : decode cX2_endOfStatement 181 = .ok (.if_icmp .ne 9, 3) := by decide +kernel
theorem dX2_endOfStatement_184 : decode cX2_endOfStatement 184 = .ok (.iload_n 2, 1) := by decide +kernel
theorem dX2_endOfStatement_185 : decode cX2_endOfStatement 185 = .ok (.iconst 1, 1) := by decide +kernel
theorem dX2_endOfStatement_186 : decode cX2_endOfStatement 186 = .ok (.iadd, 1) := by decide +kernel
theorem dX2_endOfStatement_187 : decode cX2_endOfStatement 187 = .ok (.goto 6, 3) := by decide +kernel
theorem dX2_endOfStatement_190 : decode cX2_endOfStatement 190 = .ok (.iconst (-1), 1) := by decide +kernel
theorem dX2_endOfStatement_191 : decode cX2_endOfStatement 191 = .ok (.iload_n 2, 1) := by decide +kernel
theorem dX2_endOfStatement_192 : decode cX2_endOfStatement 192 = .ok (.isub, 1) := by decide +kernel
theorem dX2_endOfStatement_193 : decode cX2_endOfStatement 193 = .ok (.ireturn, 1) := by decide +kernel
theorem dX2_isSign_0 : decode cX2_isSign 0 = .ok (.iload_n 0, 1) := by decide +kernel
theorem dX2_isSign_1 : decode cX2_isSign 1 = .ok (.bipush 43, 2) := by decide +kernel
theorem dX2_isSign_3 : decode cX2_isSign 3 = .ok (.if_icmp .eq 9, 3) := by decide +kernel
theorem dX2_isSign_6 : decode cX2_isSign 6 = .ok (.iload_n 0, 1) := by decide +kernel
theorem dX2_isSign_7 : decode cX2_isSign 7 = .ok (.bipush 45, 2) := by decide +kernel
theorem dX2_isSign_9 : decode cX2_isSign 9 = .ok (.if_icmp .ne 7, 3) := by decide +kernel
theorem dX2_isSign_12 : decode cX2_isSign 12 = .ok (.iconst 1, 1) := by decide +kernel
theorem dX2_isSign_13 : decode cX2_isSign 13 = .ok (.goto 4, 3) := by decide +kernel
theorem dX2_isSign_16 : decode cX2_isSign 16 = .ok (.iconst 0, 1) := by decide +kernel
theorem dX2_isSign_17 : decode cX2_isSign 17 = .ok (.ireturn, 1) := by decide +kernel
set_option maxRecDepth 20000 in
theorem ggX2_endOfDigits_X2_at : GoodIn wsX2_endOfDigits wsX2_at := goodIn_r _ [5, 6, 7, 8, 9] (by decide +kernel) (by decide +kernel)
set_option maxRecDepth 20000 in
theorem gX2_endOfDigits_X2_at : GoodIn wsX2_endOfDigits (wsV RX2 23 RX2 yX2_at wsX2_at) := goodIn_app (goodIn_of _ (by decide +kernel)) ggX2_endOfDigits_X2_at
theorem dX2_endOfDigits_0 : decode cX2_endOfDigits 0 = .ok (.iload_n 1, 1) := by decide +kernel
theorem dX2_endOfDigits_1 : decode cX2_endOfDigits 1 = .ok (.istore 4, 2) := by decide +kernel
theorem dX2_endOfDigits_3 : decode cX2_endOfDigits 3 = .ok (.iload 4, 2) := by decide +kernel
theorem dX2_endOfDigits_5 : decode cX2_endOfDigits 5 = .ok (.iload_n 1, 1) := by decide +kernel
theorem dX2_endOfDigits_6 : decode cX2_endOfDigits 6 = .ok (.isub, 1) := by decide +kernel
theorem dX2_endOfDigits_7 : decode cX2_endOfDigits 7 = .ok (.iload_n 3, 1) := by decide +kernel
theorem dX2_endOfDigits_8 : decode cX2_endOfDigits 8 = .ok (.if_icmp .ge 30, 3) := by decide +kernel
theorem dX2_endOfDigits_11 : decode cX2_endOfDigits 11 = .ok (.aload_n 0, 1) := by decide +kernel
theorem dX2_endOfDigits_12 : decode cX2_endOfDigits 12 = .ok (.iload 4, 2) := by decide +kernel
theorem dX2_endOfDigits_14 : decode cX2_endOfDigits 14 = .ok (.invokevirtual 23, 3) := by decide +kernel
theorem dX2_endOfDigits_17 : decode cX2_endOfDigits 17 = .ok (.bipush 48, 2) := by decide +kernel
theorem dX2_endOfDigits_19 : decode cX2_endOfDigits 19 = .ok (.if_icmp .lt 19, 3) := by decide +kernel
theorem dX2_endOfDigits_22 : decode cX2_endOfDigits 22 = .ok (.aload_n 0, 1) := by decide +kernel
theorem dX2_endOfDigits_23 : decode cX2_endOfDigits 23 = .ok (.iload 4, 2) := by decide +kernel
theorem dX2_endOfDigits_25 : decode cX2_endOfDigits 25 = .ok (.invokevirtual 23, 3) := by decide +kernel
theorem dX2_endOfDigits_28 : decode cX2_endOfDigits 28 = .ok (.iload_n 2, 1) := by decide +kernel
theorem dX2_endOfDigits_29 : decode cX2_endOfDigits 29 = .ok (.if_icmp .gt 9, 3) := by decide +kernel
theorem dX2_endOfDigits_32 : decode cX2_endOfDigits 32 = .ok (.iinc 4 1, 3) := by decide +kernel
theorem dX2_endOfDigits_35 : decode cX2_endOfDigits 35 = .ok (.goto (-32), 3) := by decide +kernel
theorem dX2_endOfDigits_38 : decode cX2_endOfDigits 38 = .ok (.iload 4, 2) := by decide +kernel
theorem dX2_endOfDigits_40 : decode cX2_endOfDigits 40 = .ok (.iload_n 1, 1) := by decide +kernel
theorem dX2_endOfDigits_41 : decode cX2_endOfDigits 41 = .ok (.if_icmp .ne 9, 3) := by decide +kernel
theorem dX2_endOfDigits_44 : decode cX2_endOfDigits 44 = .ok (.iconst (-1), 1) := by decide +kernel
theorem dX2_endOfDigits_45 : decode cX2_endOfDigits 45 = .ok (.iload_n 1, 1) := by decide +kernel
theorem dX2_endOfDigits_46 : decode cX2_endOfDigits 46 = .ok (.isub, 1) := by decide +kernel
theorem dX2_endOfDigits_47 : decode cX2_endOfDigits 47 = .ok (.goto 5, 3) := by decide +kernel
theorem dX2_endOfDigits_50 : decode cX2_endOfDigits 50 = .ok (.iload 4, 2) := by decide +kernel
theorem dX2_endOfDigits_52 : decode cX2_endOfDigits 52 = .ok (.ireturn, 1) := by decide +kernel
set_option maxRecDepth 20000 in
theorem ggX2_kindAt_X2_at : GoodIn wsX2_kindAt wsX2_at := goodIn_r _ [5, 6, 7, 8, 9] (by decide +kernel) (by decide +kernel)
set_option maxRecDepth 20000 in
theorem gX2_kindAt_X2_at : GoodIn wsX2_kindAt (wsV RX2 23 RX2 yX2_at wsX2_at) := goodIn_app (goodIn_of _ (by decide +kernel)) ggX2_kindAt_X2_at
theorem dX2_kindAt_0 : decode cX2_kindAt 0 = .ok (.aload_n 0, 1) := by decide +kernel
theorem dX2_kindAt_1 : decode cX2_kindAt 1 = .ok (.iload_n 1, 1) := by decide +kernel
theorem dX2_kindAt_2 : decode cX2_kindAt 2 = .ok (.invokevirtual 23, 3) := by decide +kernel
theorem dX2_kindAt_5 : decode cX2_kindAt 5 = .ok (.tableswitch 107 97 116 #[99, 105, 97, 107, 101, 107, 107, 107, 107, 107, 107, 107, 107, 107, 107, 107, 107, 103, 107, 95], 95) := by decide +kernel
theorem dX2_kindAt_100 : decode cX2_kindAt 100 = .ok (.iconst 0, 1) := by decide +kernel
theorem dX2_kindAt_101 : decode cX2_kindAt 101 = .ok (.ireturn, 1) := by decide +kernel
theorem dX2_kindAt_102 : decode cX2_kindAt 102 = .ok (.iconst 1, 1) := by decide +kernel
theorem dX2_kindAt_103 : decode cX2_kindAt 103 = .ok (.ireturn, 1) := by decide +kernel
theorem dX2_kindAt_104 : decode cX2_kindAt 104 = .ok (.iconst 2, 1) := by decide +kernel
theorem dX2_kindAt_105 : decode cX2_kindAt 105 = .ok (.ireturn, 1) := by decide +kernel
theorem dX2_kindAt_106 : decode cX2_kindAt 106 = .ok (.iconst 3, 1) := by decide +kernel
theorem dX2_kindAt_107 : decode cX2_kindAt 107 = .ok (.ireturn, 1) := by decide +kernel
theorem dX2_kindAt_108 : decode cX2_kindAt 108 = .ok (.iconst 4, 1) := by decide +kernel
theorem dX2_kindAt_109 : decode cX2_kindAt 109 = .ok (.ireturn, 1) := by decide +kernel
theorem dX2_kindAt_110 : decode cX2_kindAt 110 = .ok (.iconst 5, 1) := by decide +kernel
theorem dX2_kindAt_111 : decode cX2_kindAt 111 = .ok (.ireturn, 1) := by decide +kernel
theorem dX2_kindAt_112 : decode cX2_kindAt 112 = .ok (.iconst (-1), 1) := by decide +kernel
theorem dX2_kindAt_113 : decode cX2_kindAt 113 = .ok (.ireturn, 1) := by decide +kernel
set_option maxRecDepth 20000 in
theorem ggX2_numberAt_X2_at : GoodIn wsX2_numberAt wsX2_at := goodIn_r _ [5, 6, 7, 8, 9] (by decide +kernel) (by decide +kernel)
set_option maxRecDepth 20000 in
theorem gX2_numberAt_X2_at : GoodIn wsX2_numberAt (wsV RX2 23 RX2 yX2_at wsX2_at) := goodIn_app (goodIn_of _ (by decide +kernel)) ggX2_numberAt_X2_at
theorem dX2_numberAt_0 : decode cX2_numberAt 0 = .ok (.iconst 0, 1) := by decide +kernel
theorem dX2_numberAt_1 : decode cX2_numberAt 1 = .ok (.istore_n 3, 1) := by decide +kernel
theorem dX2_numberAt_2 : decode cX2_numberAt 2 = .ok (.iload_n 1, 1) := by decide +kernel
theorem dX2_numberAt_3 : decode cX2_numberAt 3 = .ok (.istore 4, 2) := by decide +kernel
theorem dX2_numberAt_5 : decode cX2_numberAt 5 = .ok (.iload 4, 2) := by decide +kernel
theorem dX2_numberAt_7 : decode cX2_numberAt 7 = .ok (.iload_n 2, 1) := by decide +kernel
theorem dX2_numberAt_8 : decode cX2_numberAt 8 = .ok (.if_icmp .ge 24, 3) := by decide +kernel
theorem dX2_numberAt_11 : decode cX2_numberAt 11 = .ok (.bipush 10, 2) := by decide +kernel
theorem dX2_numberAt_13 : decode cX2_numberAt 13 = .ok (.iload_n 3, 1) := by decide +kernel
theorem dX2_numberAt_14 : decode cX2_numberAt 14 = .ok (.imul, 1) := by decide +kernel
theorem dX2_numberAt_15 : decode cX2_numberAt 15 = .ok (.aload_n 0, 1) := by decide +kernel
theorem dX2_numberAt_16 : decode cX2_numberAt 16 = .ok (.iload 4, 2) := by decide +kernel
theorem dX2_numberAt_18 : decode cX2_numberAt 18 = .ok (.invokevirtual 23, 3) := by decide +kernel
theorem dX2_numberAt_21 : decode cX2_numberAt 21 = .ok (.iadd, 1) := by decide +kernel
theorem dX2_numberAt_22 : decode cX2_numberAt 22 = .ok (.bipush 48, 2) := by decide +kernel
theorem dX2_numberAt_24 : decode cX2_numberAt 24 = .ok (.isub, 1) := by decide +kernel
theorem dX2_numberAt_25 : decode cX2_numberAt 25 = .ok (.istore_n 3, 1) := by decide +kernel
theorem dX2_numberAt_26 : decode cX2_numberAt 26 = .ok (.iinc 4 1, 3) := by decide +kernel
theorem dX2_numberAt_29 : decode cX2_numberAt 29 = .ok (.goto (-24), 3) := by decide +kernel
theorem dX2_numberAt_32 : decode cX2_numberAt 32 = .ok (.iload_n 3, 1) := by decide +kernel
theorem dX2_numberAt_33 : decode cX2_numberAt 33 = .ok (.ireturn, 1) := by decide +kernel
end
section
theorem dX3_init_0 : decode cX3_init 0 = .ok (.aload_n 0, 1) := by decide +kernel
theorem dX3_init_1 : decode cX3_init 1 = .ok (.invokespecial 3, 3) := by decide +kernel
theorem dX3_init_4 : decode cX3_init 4 = .ok (.aload_n 0, 1) := by decide +kernel
theorem dX3_init_5 : decode cX3_init 5 = .ok (.iconst 0, 1) := by decide +kernel
theorem dX3_init_6 : decode cX3_init 6 = .ok (.putfield 9, 3) := by decide +kernel
theorem dX3_init_9 : decode cX3_init 9 = .ok (.aload_n 0, 1) := by decide +kernel
theorem dX3_init_10 : decode cX3_init 10 = .ok (.iconst 1, 1) := by decide +kernel
theorem dX3_init_11 : decode cX3_init 11 = .ok (.putfield 15, 3) := by decide +kernel
theorem dX3_init_14 : decode cX3_init 14 = .ok (.aload_n 0, 1) := by decide +kernel
theorem dX3_init_15 : decode cX3_init 15 = .ok (.iconst 5, 1) := by decide +kernel
theorem dX3_init_16 : decode cX3_init 16 = .ok (.putfield 18, 3) := by decide +kernel
theorem dX3_init_19 : decode cX3_init 19 = .ok (.aload_n 0, 1) := by decide +kernel
theorem dX3_init_20 : decode cX3_init 20 = .ok (.bipush 6, 2) := by decide +kernel
theorem dX3_init_22 : decode cX3_init 22 = .ok (.putfield 21, 3) := by decide +kernel
theorem dX3_init_25 : decode cX3_init 25 = .ok (.aload_n 0, 1) := by decide +kernel
theorem dX3_init_26 : decode cX3_init 26 = .ok (.bipush 8, 2) := by decide +kernel
theorem dX3_init_28 : decode cX3_init 28 = .ok (.newarray .int, 2) := by decide +kernel
theorem dX3_init_30 : decode cX3_init 30 = .ok (.putfield 24, 3) := by decide +kernel
theorem dX3_init_33 : decode cX3_init 33 = .ok (.aload_n 0, 1) := by decide +kernel
theorem dX3_init_34 : decode cX3_init 34 = .ok (.bipush 8, 2) := by decide +kernel
theorem dX3_init_36 : decode cX3_init 36 = .ok (.newarray .int, 2) := by decide +kernel
theorem dX3_init_38 : decode cX3_init 38 = .ok (.putfield 28, 3) := by decide +kernel
theorem dX3_init_41 : decode cX3_init 41 = .ok (.return_, 1) := by decide +kernel
set_option maxRecDepth 20000 in
theorem ggX3_copy_X3_lengthOf : GoodIn wsX3_copy wsX3_lengthOf := goodIn_r _ [13, 7, 18, 19, 20, 21, 22, 23, 24, 25] (by decide +kernel) (by decide +kernel)
set_option maxRecDepth 20000 in
theorem gX3_copy_X3_lengthOf : GoodIn wsX3_copy (wsV RX3 37 RX3 yX3_lengthOf wsX3_lengthOf) := goodIn_app (goodIn_of _ (by decide +kernel)) ggX3_copy_X3_lengthOf
set_option maxRecDepth 20000 in
theorem ggX3_copy_X3_sortsOf : GoodIn wsX3_copy wsX3_sortsOf := goodIn_r _ [17, 8, 18, 19, 20, 21, 22, 23, 24, 25] (by decide +kernel) (by decide +kernel)
set_option maxRecDepth 20000 in
theorem gX3_copy_X3_sortsOf : GoodIn wsX3_copy (wsV RX3 41 RX3 yX3_sortsOf wsX3_sortsOf) := goodIn_app (goodIn_of _ (by decide +kernel)) ggX3_copy_X3_sortsOf
theorem dX3_copy_0 : decode cX3_copy 0 = .ok (.aload_n 0, 1) := by decide +kernel
theorem dX3_copy_1 : decode cX3_copy 1 = .ok (.aload_n 1, 1) := by decide +kernel
theorem dX3_copy_2 : decode cX3_copy 2 = .ok (.getfield 9, 3) := by decide +kernel
theorem dX3_copy_5 : decode cX3_copy 5 = .ok (.putfield 9, 3) := by decide +kernel
theorem dX3_copy_8 : decode cX3_copy 8 = .ok (.aload_n 0, 1) := by decide +kernel
theorem dX3_copy_9 : decode cX3_copy 9 = .ok (.aload_n 1, 1) := by decide +kernel
theorem dX3_copy_10 : decode cX3_copy 10 = .ok (.getfield 15, 3) := by decide +kernel
theorem dX3_copy_13 : decode cX3_copy 13 = .ok (.putfield 15, 3) := by decide +kernel
theorem dX3_copy_16 : decode cX3_copy 16 = .ok (.aload_n 0, 1) := by decide +kernel
theorem dX3_copy_17 : decode cX3_copy 17 = .ok (.aload_n 1, 1) := by decide +kernel
theorem dX3_copy_18 : decode cX3_copy 18 = .ok (.getfield 18, 3) := by decide +kernel
theorem dX3_copy_21 : decode cX3_copy 21 = .ok (.putfield 18, 3) := by decide +kernel
theorem dX3_copy_24 : decode cX3_copy 24 = .ok (.aload_n 0, 1) := by decide +kernel
theorem dX3_copy_25 : decode cX3_copy 25 = .ok (.aload_n 1, 1) := by decide +kernel
theorem dX3_copy_26 : decode cX3_copy 26 = .ok (.getfield 21, 3) := by decide +kernel
theorem dX3_copy_29 : decode cX3_copy 29 = .ok (.putfield 21, 3) := by decide +kernel
theorem dX3_copy_32 : decode cX3_copy 32 = .ok (.aload_n 0, 1) := by decide +kernel
theorem dX3_copy_33 : decode cX3_copy 33 = .ok (.aload_n 1, 1) := by decide +kernel
theorem dX3_copy_34 : decode cX3_copy 34 = .ok (.getfield 31, 3) := by decide +kernel
theorem dX3_copy_37 : decode cX3_copy 37 = .ok (.putfield 31, 3) := by decide +kernel
theorem dX3_copy_40 : decode cX3_copy 40 = .ok (.aload_n 0, 1) := by decide +kernel
theorem dX3_copy_41 : decode cX3_copy 41 = .ok (.aload_n 1, 1) := by decide +kernel
theorem dX3_copy_42 : decode cX3_copy 42 = .ok (.getfield 34, 3) := by decide +kernel
theorem dX3_copy_45 : decode cX3_copy 45 = .ok (.putfield 34, 3) := by decide +kernel
theorem dX3_copy_48 : decode cX3_copy 48 = .ok (.iconst 0, 1) := by decide +kernel
theorem dX3_copy_49 : decode cX3_copy 49 = .ok (.istore_n 2, 1) := by decide +kernel
theorem dX3_copy_50 : decode cX3_copy 50 = .ok (.iload_n 2, 1) := by decide +kernel
theorem dX3_copy_51 : decode cX3_copy 51 = .ok (.bipush 8, 2) := by decide +kernel
theorem dX3_copy_53 : decode cX3_copy 53 = .ok (.if_icmp .ge 31, 3) := by decide +kernel
theorem dX3_copy_56 : decode cX3_copy 56 = .ok (.aload_n 0, 1) := by decide +kernel
theorem dX3_copy_57 : decode cX3_copy 57 = .ok (.getfield 24, 3) := by decide +kernel
theorem dX3_copy_60 : decode cX3_copy 60 = .ok (.iload_n 2, 1) := by decide +kernel
theorem dX3_copy_61 : decode cX3_copy 61 = .ok (.aload_n 1, 1) := by decide +kernel
theorem dX3_copy_62 : decode cX3_copy 62 = .ok (.iload_n 2, 1) := by decide +kernel
theorem dX3_copy_63 : decode cX3_copy 63 = .ok (.invokevirtual 37, 3) := by decide +kernel
theorem dX3_copy_66 : decode cX3_copy 66 = .ok (.iastore, 1) := by decide +kernel
theorem dX3_copy_67 : decode cX3_copy 67 = .ok (.aload_n 0, 1) := by decide +kernel
theorem dX3_copy_68 : decode cX3_copy 68 = .ok (.getfield 28, 3) := by decide +kernel
theorem dX3_copy_71 : decode cX3_copy 71 = .ok (.iload_n 2, 1) := by decide +kernel
theorem dX3_copy_72 : decode cX3_copy 72 = .ok (.aload_n 1, 1) := by decide +kernel
theorem dX3_copy_73 : decode cX3_copy 73 = .ok (.iload_n 2, 1) := by decide +kernel
theorem dX3_copy_74 : decode cX3_copy 74 = .ok (.invokevirtual 41, 3) := by decide +kernel
theorem dX3_copy_77 : decode cX3_copy 77 = .ok (.iastore, 1) := by decide +kernel
theorem dX3_copy_78 : decode cX3_copy 78 = .ok (.iinc 2 1, 3) := by decide +kernel
theorem dX3_copy_81 : decode cX3_copy 81 = .ok (.goto (-31), 3) := by decide +kernel
theorem dX3_copy_84 : decode cX3_copy 84 = .ok (.return_, 1) := by decide +kernel
theorem dX3_least_0 : decode cX3_least 0 = .ok (.iload_n 0, 1) := by decide +kernel
theorem dX3_least_1 : decode cX3_least 1 = .ok (.iconst 2, 1) := by decide +kernel
theorem dX3_least_2 : decode cX3_least 2 = .ok (.if_icmp .ne 7, 3) := by decide +kernel
theorem dX3_least_5 : decode cX3_least 5 = .ok (.iconst 0, 1) := by decide +kernel
theorem dX3_least_6 : decode cX3_least 6 = .ok (.goto 4, 3) := by decide +kernel
theorem dX3_least_9 : decode cX3_least 9 = .ok (.iconst 1, 1) := by decide +kernel
theorem dX3_least_10 : decode cX3_least 10 = .ok (.ireturn, 1) := by decide +kernel
theorem dX3_greatest_0 : decode cX3_greatest 0 = .ok (.iload_n 0, 1) := by decide +kernel
theorem dX3_greatest_1 : decode cX3_greatest 1 = .ok (.iconst 1, 1) := by decide +kernel
theorem dX3_greatest_2 : decode cX3_greatest 2 = .ok (.if_icmp .ne 8, 3) := by decide +kernel
theorem dX3_greatest_5 : decode cX3_greatest 5 = .ok (.bipush 11, 2) := by decide +kernel
theorem dX3_greatest_7 : decode cX3_greatest 7 = .ok (.goto 5, 3) := by decide +kernel
theorem dX3_greatest_10 : decode cX3_greatest 10 = .ok (.bipush 10, 2) := by decide +kernel
theorem dX3_greatest_12 : decode cX3_greatest 12 = .ok (.ireturn, 1) := by decide +kernel
theorem dX3_number_0 : decode cX3_number 0 = .ok (.iload_n 1, 1) := by decide +kernel
theorem dX3_number_1 : decode cX3_number 1 = .ok (.iconst 2, 1) := by decide +kernel
theorem dX3_number_2 : decode cX3_number 2 = .ok (.if_icmp .ne 10, 3) := by decide +kernel
theorem dX3_number_5 : decode cX3_number 5 = .ok (.iconst 5, 1) := by decide +kernel
theorem dX3_number_6 : decode cX3_number 6 = .ok (.aload_n 0, 1) := by decide +kernel
theorem dX3_number_7 : decode cX3_number 7 = .ok (.getfield 31, 3) := by decide +kernel
theorem dX3_number_10 : decode cX3_number 10 = .ok (.iadd, 1) := by decide +kernel
theorem dX3_number_11 : decode cX3_number 11 = .ok (.ireturn, 1) := by decide +kernel
theorem dX3_number_12 : decode cX3_number 12 = .ok (.iload_n 1, 1) := by decide +kernel
theorem dX3_number_13 : decode cX3_number 13 = .ok (.iconst 1, 1) := by decide +kernel
theorem dX3_number_14 : decode cX3_number 14 = .ok (.if_icmp .ne 10, 3) := by decide +kernel
theorem dX3_number_17 : decode cX3_number 17 = .ok (.aload_n 0, 1) := by decide +kernel
theorem dX3_number_18 : decode cX3_number 18 = .ok (.getfield 21, 3) := by decide +kernel
theorem dX3_number_21 : decode cX3_number 21 = .ok (.goto 7, 3) := by decide +kernel
theorem dX3_number_24 : decode cX3_number 24 = .ok (.aload_n 0, 1) := by decide +kernel
theorem dX3_number_25 : decode cX3_number 25 = .ok (.getfield 18, 3) := by decide +kernel
theorem dX3_number_28 : decode cX3_number 28 = .ok (.ireturn, 1) := by decide +kernel
set_option maxRecDepth 20000 in
theorem ggX3_tellNumber_X3_least : GoodIn wsX3_tellNumber wsX3_least := goodIn_r _ [7] (by decide +kernel) (by decide +kernel)
set_option maxRecDepth 20000 in
theorem gX3_tellNumber_X3_least : GoodIn wsX3_tellNumber (va_wsS RX3 44 yX3_least wsX3_least) := goodIn_app (goodIn_of _ (by decide +kernel)) ggX3_tellNumber_X3_least
set_option maxRecDepth 20000 in
theorem ggX3_tellNumber_X3_greatest : GoodIn wsX3_tellNumber wsX3_greatest := goodIn_r _ [10] (by decide +kernel) (by decide +kernel)
set_option maxRecDepth 20000 in
theorem gX3_tellNumber_X3_greatest : GoodIn wsX3_tellNumber (va_wsS RX3 47 yX3_greatest wsX3_greatest) := goodIn_app (goodIn_of _ (by decide +kernel)) ggX3_tellNumber_X3_greatest
theorem dX3_tellNumber_0 : decode cX3_tellNumber 0 = .ok (.iload_n 2, 1) := by decide +kernel
theorem dX3_tellNumber_1 : decode cX3_tellNumber 1 = .ok (.iload_n 1, 1) := by decide +kernel
theorem dX3_tellNumber_2 : decode cX3_tellNumber 2 = .ok (.invokestatic 44, 3) := by decide +kernel
theorem dX3_tellNumber_5 : decode cX3_tellNumber 5 = .ok (.if_icmp .lt 11, 3) := by decide +kernel
theorem dX3_tellNumber_8 : decode cX3_tellNumber 8 = .ok (.iload_n 2, 1) := by decide +kernel
theorem dX3_tellNumber_9 : decode cX3_tellNumber 9 = .ok (.iload_n 1, 1) := by decide +kernel
theorem dX3_tellNumber_10 : decode cX3_tellNumber 10 = .ok (.invokestatic 47, 3) := by decide +kernel
theorem dX3_tellNumber_13 : decode cX3_tellNumber 13 = .ok (.if_icmp .le 5, 3) := by decide +kernel
theorem dX3_tellNumber_16 : decode cX3_tellNumber 16 = .ok (.iconst 0, 1) := by decide +kernel
theorem dX3_tellNumber_17 : decode cX3_tellNumber 17 = .ok (.ireturn, 1) := by decide +kernel
theorem dX3_tellNumber_18 : decode cX3_tellNumber 18 = .ok (.iload_n 1, 1) := by decide +kernel
theorem dX3_tellNumber_19 : decode cX3_tellNumber 19 = .ok (.iconst 2, 1) := by decide +kernel
theorem dX3_tellNumber_20 : decode cX3_tellNumber 20 = .ok (.if_icmp .ne 13, 3) := by decide +kernel
theorem dX3_tellNumber_23 : decode cX3_tellNumber 23 = .ok (.aload_n 0, 1) := by decide +kernel
theorem dX3_tellNumber_24 : decode cX3_tellNumber 24 = .ok (.iload_n 2, 1) := by decide +kernel
theorem dX3_tellNumber_25 : decode cX3_tellNumber 25 = .ok (.iconst 5, 1) := by decide +kernel
theorem dX3_tellNumber_26 : decode cX3_tellNumber 26 = .ok (.isub, 1) := by decide +kernel
theorem dX3_tellNumber_27 : decode cX3_tellNumber 27 = .ok (.putfield 31, 3) := by decide +kernel
theorem dX3_tellNumber_30 : decode cX3_tellNumber 30 = .ok (.goto 21, 3) := by decide +kernel
theorem dX3_tellNumber_33 : decode cX3_tellNumber 33 = .ok (.iload_n 1, 1) := by decide +kernel
theorem dX3_tellNumber_34 : decode cX3_tellNumber 34 = .ok (.iconst 1, 1) := by decide +kernel
theorem dX3_tellNumber_35 : decode cX3_tellNumber 35 = .ok (.if_icmp .ne 11, 3) := by decide +kernel
theorem dX3_tellNumber_38 : decode cX3_tellNumber 38 = .ok (.aload_n 0, 1) := by decide +kernel
theorem dX3_tellNumber_39 : decode cX3_tellNumber 39 = .ok (.iload_n 2, 1) := by decide +kernel
theorem dX3_tellNumber_40 : decode cX3_tellNumber 40 = .ok (.putfield 21, 3) := by decide +kernel
theorem dX3_tellNumber_43 : decode cX3_tellNumber 43 = .ok (.goto 8, 3) := by decide +kernel
theorem dX3_tellNumber_46 : decode cX3_tellNumber 46 = .ok (.aload_n 0, 1) := by decide +kernel
theorem dX3_tellNumber_47 : decode cX3_tellNumber 47 = .ok (.iload_n 2, 1) := by decide +kernel
theorem dX3_tellNumber_48 : decode cX3_tellNumber 48 = .ok (.putfield 18, 3) := by decide +kernel
theorem dX3_tellNumber_51 : decode cX3_tellNumber 51 = .ok (.iconst 1, 1) := by decide +kernel
theorem dX3_tellNumber_52 : decode cX3_tellNumber 52 = .ok (.ireturn, 1) := by decide +kernel
set_option maxRecDepth 20000 in
theorem ggX3_take_X2_at : GoodIn wsX3_take wsX2_at := goodIn_r _ [5, 6, 7, 44, 45] (by decide +kernel) (by decide +kernel)
set_option maxRecDepth 20000 in
theorem gX3_take_X2_at : GoodIn wsX3_take (wsV RX3 50 RX2 yX2_at wsX2_at) := goodIn_app (goodIn_of _ (by decide +kernel)) ggX3_take_X2_at
set_option maxRecDepth 20000 in
theorem ggX3_take_X2_kindAt : GoodIn wsX3_take wsX2_kindAt := goodIn_r _ [11, 12, 2, 3, 4, 5, 6, 7, 44, 45] (by decide +kernel) (by decide +kernel)
set_option maxRecDepth 20000 in
theorem gX3_take_X2_kindAt : GoodIn wsX3_take (wsV RX3 55 RX2 yX2_kindAt wsX2_kindAt) := goodIn_app (goodIn_of _ (by decide +kernel)) ggX3_take_X2_kindAt
set_option maxRecDepth 20000 in
theorem ggX3_take_X2_numberAt : GoodIn wsX3_take wsX2_numberAt := goodIn_r _ [16, 12, 2, 3, 4, 5, 6, 7, 44, 45] (by decide +kernel) (by decide +kernel)
set_option maxRecDepth 20000 in
theorem gX3_take_X2_numberAt : GoodIn wsX3_take (wsV RX3 58 RX2 yX2_numberAt wsX2_numberAt) := goodIn_app (goodIn_of _ (by decide +kernel)) ggX3_take_X2_numberAt
set_option maxRecDepth 20000 in
theorem ggX3_take_X3_takeLaw : GoodIn wsX3_take wsX3_takeLaw := goodIn_r _ [21, 22, 23, 46, 47, 48, 49, 50, 51, 52, 53] (by decide +kernel) (by decide +kernel)
set_option maxRecDepth 20000 in
theorem gX3_take_X3_takeLaw : GoodIn wsX3_take (wsV RX3 62 RX3 yX3_takeLaw wsX3_takeLaw) := goodIn_app (goodIn_of _ (by decide +kernel)) ggX3_take_X3_takeLaw
set_option maxRecDepth 20000 in
theorem ggX3_take_X3_tellNumber : GoodIn wsX3_take wsX3_tellNumber := goodIn_r _ [27, 28, 29, 30, 31, 32, 20, 33, 34, 35, 36, 46, 47, 48, 49, 50, 51, 52, 53] (by decide +kernel) (by decide +kernel)
set_option maxRecDepth 20000 in
theorem gX3_take_X3_tellNumber : GoodIn wsX3_take (wsV RX3 66 RX3 yX3_tellNumber wsX3_tellNumber) := goodIn_app (goodIn_of _ (by decide +kernel)) ggX3_take_X3_tellNumber
set_option maxRecDepth 20000 in
theorem ggX3_take_X3_takeFamily : GoodIn wsX3_take wsX3_takeFamily := goodIn_r _ [40, 41, 42, 43, 1, 2, 3, 4, 5, 6, 7, 46, 47, 48, 49, 50, 51, 52, 53, 44, 45] (by decide +kernel) (by decide +kernel)
set_option maxRecDepth 20000 in
theorem gX3_take_X3_takeFamily : GoodIn wsX3_take (wsV RX3 69 RX3 yX3_takeFamily wsX3_takeFamily) := goodIn_app (goodIn_of _ (by decide +kernel)) ggX3_take_X3_takeFamily
theorem dX3_take_0 : decode cX3_take 0 = .ok (.iload_n 3, 1) := by decide +kernel
theorem dX3_take_1 : decode cX3_take 1 = .ok (.iconst 1, 1) := by decide +kernel
theorem dX3_take_2 : decode cX3_take 2 = .ok (.isub, 1) := by decide +kernel
theorem dX3_take_3 : decode cX3_take 3 = .ok (.istore 4, 2) := by decide +kernel
theorem dX3_take_5 : decode cX3_take 5 = .ok (.aload_n 1, 1) := by decide +kernel
theorem dX3_take_6 : decode cX3_take 6 = .ok (.iload_n 2, 1) := by decide +kernel
theorem dX3_take_7 : decode cX3_take 7 = .ok (.invokevirtual 50, 3) := by decide +kernel
theorem dX3_take_10 : decode cX3_take 10 = .ok (.tableswitch 167 99 110 #[98, 167, 167, 156, 167, 167, 167, 167, 167, 62, 83, 113], 62) := by decide +kernel
theorem dX3_take_72 : decode cX3_take 72 = .ok (.aload_n 0, 1) := by decide +kernel
theorem dX3_take_73 : decode cX3_take 73 = .ok (.aload_n 1, 1) := by decide +kernel
theorem dX3_take_74 : decode cX3_take 74 = .ok (.iload_n 2, 1) := by decide +kernel
theorem dX3_take_75 : decode cX3_take 75 = .ok (.iconst 1, 1) := by decide +kernel
theorem dX3_take_76 : decode cX3_take 76 = .ok (.iadd, 1) := by decide +kernel
theorem dX3_take_77 : decode cX3_take 77 = .ok (.invokevirtual 55, 3) := by decide +kernel
theorem dX3_take_80 : decode cX3_take 80 = .ok (.aload_n 1, 1) := by decide +kernel
theorem dX3_take_81 : decode cX3_take 81 = .ok (.iload_n 2, 1) := by decide +kernel
theorem dX3_take_82 : decode cX3_take 82 = .ok (.iconst 2, 1) := by decide +kernel
theorem dX3_take_83 : decode cX3_take 83 = .ok (.iadd, 1) := by decide +kernel
theorem dX3_take_84 : decode cX3_take 84 = .ok (.iload 4, 2) := by decide +kernel
theorem dX3_take_86 : decode cX3_take 86 = .ok (.invokevirtual 58, 3) := by decide +kernel
theorem dX3_take_89 : decode cX3_take 89 = .ok (.invokevirtual 62, 3) := by decide +kernel
theorem dX3_take_92 : decode cX3_take 92 = .ok (.ireturn, 1) := by decide +kernel
theorem dX3_take_93 : decode cX3_take 93 = .ok (.aload_n 0, 1) := by decide +kernel
theorem dX3_take_94 : decode cX3_take 94 = .ok (.iconst 0, 1) := by decide +kernel
theorem dX3_take_95 : decode cX3_take 95 = .ok (.aload_n 1, 1) := by decide +kernel
theorem dX3_take_96 : decode cX3_take 96 = .ok (.iload_n 2, 1) := by decide +kernel
theorem dX3_take_97 : decode cX3_take 97 = .ok (.iconst 1, 1) := by decide +kernel
theorem dX3_take_98 : decode cX3_take 98 = .ok (.iadd, 1) := by decide +kernel
theorem dX3_take_99 : decode cX3_take 99 = .ok (.iload 4, 2) := by decide +kernel
theorem dX3_take_101 : decode cX3_take 101 = .ok (.invokevirtual 58, 3) := by decide +kernel
theorem dX3_take_104 : decode cX3_take 104 = .ok (.invokevirtual 66, 3) := by decide +kernel
theorem dX3_take_107 : decode cX3_take 107 = .ok (.ireturn, 1) := by decide +kernel
theorem dX3_take_108 : decode cX3_take 108 = .ok (.aload_n 0, 1) := by decide +kernel
theorem dX3_take_109 : decode cX3_take 109 = .ok (.iconst 1, 1) := by decide +kernel
theorem dX3_take_110 : decode cX3_take 110 = .ok (.aload_n 1, 1) := by decide +kernel
theorem dX3_take_111 : decode cX3_take 111 = .ok (.iload_n 2, 1) := by decide +kernel
theorem dX3_take_112 : decode cX3_take 112 = .ok (.iconst 1, 1) := by decide +kernel
theorem dX3_take_113 : decode cX3_take 113 = .ok (.iadd, 1) := by decide +kernel
theorem dX3_take_114 : decode cX3_take 114 = .ok (.iload 4, 2) := by decide +kernel
theorem dX3_take_116 : decode cX3_take 116 = .ok (.invokevirtual 58, 3) := by decide +kernel
theorem dX3_take_119 : decode cX3_take 119 = .ok (.invokevirtual 66, 3) := by decide +kernel
theorem dX3_take_122 : decode cX3_take 122 = .ok (.ireturn, 1) := by decide +kernel
theorem dX3_take_123 : decode cX3_take 123 = .ok (.aload_n 1, 1) := by decide +kernel
theorem dX3_take_124 : decode cX3_take 124 = .ok (.iload_n 2, 1) := by decide +kernel
theorem dX3_take_125 : decode cX3_take 125 = .ok (.iconst 2, 1) := by decide +kernel
theorem dX3_take_126 : decode cX3_take 126 = .ok (.iadd, 1) := by decide +kernel
theorem dX3_take_127 : decode cX3_take 127 = .ok (.iload 4, 2) := by decide +kernel
theorem dX3_take_129 : decode cX3_take 129 = .ok (.invokevirtual 58, 3) := by decide +kernel
theorem dX3_take_132 : decode cX3_take 132 = .ok (.istore 5, 2) := by decide +kernel
theorem dX3_take_134 : decode cX3_take 134 = .ok (.aload_n 1, 1) := by decide +kernel
theorem dX3_take_135 : decode cX3_take 135 = .ok (.iload_n 2, 1) := by decide +kernel
theorem dX3_take_136 : decode cX3_take 136 = .ok (.iconst 1, 1) := by decide +kernel
theorem dX3_take_137 : decode cX3_take 137 = .ok (.iadd, 1) := by decide +kernel
theorem dX3_take_138 : decode cX3_take 138 = .ok (.invokevirtual 50, 3) := by decide +kernel
theorem dX3_take_141 : decode cX3_take 141 = .ok (.bipush 45, 2) := by decide +kernel
theorem dX3_take_143 : decode cX3_take 143 = .ok (.if_icmp .ne 9, 3) := by decide +kernel
theorem dX3_take_146 : decode cX3_take 146 = .ok (.iload 5, 2) := by decide +kernel
theorem dX3_take_148 : decode cX3_take 148 = .ok (.ineg, 1) := by decide +kernel
theorem dX3_take_149 : decode cX3_take 149 = .ok (.goto 5, 3) := by decide +kernel
theorem dX3_take_152 : decode cX3_take 152 = .ok (.iload 5, 2) := by decide +kernel
theorem dX3_take_154 : decode cX3_take 154 = .ok (.istore 6, 2) := by decide +kernel
theorem dX3_take_156 : decode cX3_take 156 = .ok (.aload_n 0, 1) := by decide +kernel
theorem dX3_take_157 : decode cX3_take 157 = .ok (.iconst 2, 1) := by decide +kernel
theorem dX3_take_158 : decode cX3_take 158 = .ok (.iconst 5, 1) := by decide +kernel
theorem dX3_take_159 : decode cX3_take 159 = .ok (.iload 6, 2) := by decide +kernel
theorem dX3_take_161 : decode cX3_take 161 = .ok (.iadd, 1) := by decide +kernel
theorem dX3_take_162 : decode cX3_take 162 = .ok (.invokevirtual 66, 3) := by decide +kernel
theorem dX3_take_165 : decode cX3_take 165 = .ok (.ireturn, 1) := by decide +kernel
theorem dX3_take_166 : decode cX3_take 166 = .ok (.aload_n 0, 1) := by decide +kernel
theorem dX3_take_167 : decode cX3_take 167 = .ok (.aload_n 1, 1) := by decide +kernel
theorem dX3_take_168 : decode cX3_take 168 = .ok (.iload_n 2, 1) := by decide +kernel
theorem dX3_take_169 : decode cX3_take 169 = .ok (.iconst 1, 1) := by decide +kernel
theorem dX3_take_170 : decode cX3_take 170 = .ok (.iadd, 1) := by decide +kernel
theorem dX3_take_171 : decode cX3_take 171 = .ok (.iload 4, 2) := by decide +kernel
theorem dX3_take_173 : decode cX3_take 173 = .ok (.invokevirtual 69, 3) := by decide +kernel
theorem dX3_take_176 : decode cX3_take 176 = .ok (.ireturn, 1) := by decide +kernel
theorem dX3_take_177 : decode cX3_take 177 = .ok (.iconst 0, 1) := by decide +kernel
theorem dX3_take_178 : decode cX3_take 178 = .ok (.ireturn, 1) := by decide +kernel
theorem dX3_takeLaw_0 : decode cX3_takeLaw 0 = .ok (.iload_n 1, 1) := by decide +kernel
theorem dX3_takeLaw_1 : decode cX3_takeLaw 1 = .ok (.ifCond .lt 14, 3) := by decide +kernel
theorem dX3_takeLaw_4 : decode cX3_takeLaw 4 = .ok (.iload_n 2, 1) := by decide +kernel
theorem dX3_takeLaw_5 : decode cX3_takeLaw 5 = .ok (.iconst 1, 1) := by decide +kernel
theorem dX3_takeLaw_6 : decode cX3_takeLaw 6 = .ok (.if_icmp .lt 9, 3) := by decide +kernel
theorem dX3_takeLaw_9 : decode cX3_takeLaw 9 = .ok (.iload_n 2, 1) := by decide +kernel
theorem dX3_takeLaw_10 : decode cX3_takeLaw 10 = .ok (.bipush 9, 2) := by decide +kernel
theorem dX3_takeLaw_12 : decode cX3_takeLaw 12 = .ok (.if_icmp .le 5, 3) := by decide +kernel
theorem dX3_takeLaw_15 : decode cX3_takeLaw 15 = .ok (.iconst 0, 1) := by decide +kernel
theorem dX3_takeLaw_16 : decode cX3_takeLaw 16 = .ok (.ireturn, 1) := by decide +kernel
theorem dX3_takeLaw_17 : decode cX3_takeLaw 17 = .ok (.aload_n 0, 1) := by decide +kernel
theorem dX3_takeLaw_18 : decode cX3_takeLaw 18 = .ok (.iload_n 1, 1) := by decide +kernel
theorem dX3_takeLaw_19 : decode cX3_takeLaw 19 = .ok (.putfield 9, 3) := by decide +kernel
theorem dX3_takeLaw_22 : decode cX3_takeLaw 22 = .ok (.aload_n 0, 1) := by decide +kernel
theorem dX3_takeLaw_23 : decode cX3_takeLaw 23 = .ok (.iload_n 2, 1) := by decide +kernel
theorem dX3_takeLaw_24 : decode cX3_takeLaw 24 = .ok (.putfield 15, 3) := by decide +kernel
theorem dX3_takeLaw_27 : decode cX3_takeLaw 27 = .ok (.iconst 1, 1) := by decide +kernel
theorem dX3_takeLaw_28 : decode cX3_takeLaw 28 = .ok (.ireturn, 1) := by decide +kernel
set_option maxRecDepth 20000 in
theorem ggX3_takeFamily_X2_at : GoodIn wsX3_takeFamily wsX2_at := goodIn_r _ [8, 9, 10, 19, 20] (by decide +kernel) (by decide +kernel)
set_option maxRecDepth 20000 in
theorem gX3_takeFamily_X2_at : GoodIn wsX3_takeFamily (wsV RX3 50 RX2 yX2_at wsX2_at) := goodIn_app (goodIn_of _ (by decide +kernel)) ggX3_takeFamily_X2_at
theorem dX3_takeFamily_0 : decode cX3_takeFamily 0 = .ok (.aload_n 0, 1) := by decide +kernel
theorem dX3_takeFamily_1 : decode cX3_takeFamily 1 = .ok (.getfield 34, 3) := by decide +kernel
theorem dX3_takeFamily_4 : decode cX3_takeFamily 4 = .ok (.ifCond .lt 12, 3) := by decide +kernel
theorem dX3_takeFamily_7 : decode cX3_takeFamily 7 = .ok (.aload_n 0, 1) := by decide +kernel
theorem dX3_takeFamily_8 : decode cX3_takeFamily 8 = .ok (.getfield 34, 3) := by decide +kernel
theorem dX3_takeFamily_11 : decode cX3_takeFamily 11 = .ok (.bipush 8, 2) := by decide +kernel
theorem dX3_takeFamily_13 : decode cX3_takeFamily 13 = .ok (.if_icmp .lt 5, 3) := by decide +kernel
theorem dX3_takeFamily_16 : decode cX3_takeFamily 16 = .ok (.iconst 0, 1) := by decide +kernel
theorem dX3_takeFamily_17 : decode cX3_takeFamily 17 = .ok (.ireturn, 1) := by decide +kernel
theorem dX3_takeFamily_18 : decode cX3_takeFamily 18 = .ok (.iconst 0, 1) := by decide +kernel
theorem dX3_takeFamily_19 : decode cX3_takeFamily 19 = .ok (.istore 4, 2) := by decide +kernel
theorem dX3_takeFamily_21 : decode cX3_takeFamily 21 = .ok (.iload_n 2, 1) := by decide +kernel
theorem dX3_takeFamily_22 : decode cX3_takeFamily 22 = .ok (.istore 5, 2) := by decide +kernel
theorem dX3_takeFamily_24 : decode cX3_takeFamily 24 = .ok (.iload 5, 2) := by decide +kernel
theorem dX3_takeFamily_26 : decode cX3_takeFamily 26 = .ok (.iload_n 3, 1) := by decide +kernel
theorem dX3_takeFamily_27 : decode cX3_takeFamily 27 = .ok (.if_icmp .ge 31, 3) := by decide +kernel
theorem dX3_takeFamily_30 : decode cX3_takeFamily 30 = .ok (.aload_n 1, 1) := by decide +kernel
theorem dX3_takeFamily_31 : decode cX3_takeFamily 31 = .ok (.iload 5, 2) := by decide +kernel
theorem dX3_takeFamily_33 : decode cX3_takeFamily 33 = .ok (.invokevirtual 50, 3) := by decide +kernel
theorem dX3_takeFamily_36 : decode cX3_takeFamily 36 = .ok (.bipush 49, 2) := by decide +kernel
theorem dX3_takeFamily_38 : decode cX3_takeFamily 38 = .ok (.if_icmp .ne 14, 3) := by decide +kernel
theorem dX3_takeFamily_41 : decode cX3_takeFamily 41 = .ok (.iload 4, 2) := by decide +kernel
theorem dX3_takeFamily_43 : decode cX3_takeFamily 43 = .ok (.iconst 1, 1) := by decide +kernel
theorem dX3_takeFamily_44 : decode cX3_takeFamily 44 = .ok (.iload 5, 2) := by decide +kernel
theorem dX3_takeFamily_46 : decode cX3_takeFamily 46 = .ok (.iload_n 2, 1) := by decide +kernel
theorem dX3_takeFamily_47 : decode cX3_takeFamily 47 = .ok (.isub, 1) := by decide +kernel
theorem dX3_takeFamily_48 : decode cX3_takeFamily 48 = .ok (.ishl, 1) := by decide +kernel
theorem dX3_takeFamily_49 : decode cX3_takeFamily 49 = .ok (.ior, 1) := by decide +kernel
theorem dX3_takeFamily_50 : decode cX3_takeFamily 50 = .ok (.istore 4, 2) := by decide +kernel
theorem dX3_takeFamily_52 : decode cX3_takeFamily 52 = .ok (.iinc 5 1, 3) := by decide +kernel
theorem dX3_takeFamily_55 : decode cX3_takeFamily 55 = .ok (.goto (-31), 3) := by decide +kernel
theorem dX3_takeFamily_58 : decode cX3_takeFamily 58 = .ok (.aload_n 0, 1) := by decide +kernel
theorem dX3_takeFamily_59 : decode cX3_takeFamily 59 = .ok (.getfield 24, 3) := by decide +kernel
theorem dX3_takeFamily_62 : decode cX3_takeFamily 62 = .ok (.aload_n 0, 1) := by decide +kernel
theorem dX3_takeFamily_63 : decode cX3_takeFamily 63 = .ok (.getfield 34, 3) := by decide +kernel
theorem dX3_takeFamily_66 : decode cX3_takeFamily 66 = .ok (.iload_n 3, 1) := by decide +kernel
theorem dX3_takeFamily_67 : decode cX3_takeFamily 67 = .ok (.iload_n 2, 1) := by decide +kernel
theorem dX3_takeFamily_68 : decode cX3_takeFamily 68 = .ok (.isub, 1) := by decide +kernel
theorem dX3_takeFamily_69 : decode cX3_takeFamily 69 = .ok (.iastore, 1) := by decide +kernel
theorem dX3_takeFamily_70 : decode cX3_takeFamily 70 = .ok (.aload_n 0, 1) := by decide +kernel
theorem dX3_takeFamily_71 : decode cX3_takeFamily 71 = .ok (.getfield 28, 3) := by decide +kernel
theorem dX3_takeFamily_74 : decode cX3_takeFamily 74 = .ok (.aload_n 0, 1) := by decide +kernel
theorem dX3_takeFamily_75 : decode cX3_takeFamily 75 = .ok (.getfield 34, 3) := by decide +kernel
theorem dX3_takeFamily_78 : decode cX3_takeFamily 78 = .ok (.iload 4, 2) := by decide +kernel
theorem dX3_takeFamily_80 : decode cX3_takeFamily 80 = .ok (.iastore, 1) := by decide +kernel
theorem dX3_takeFamily_81 : decode cX3_takeFamily 81 = .ok (.aload_n 0, 1) := by decide +kernel
theorem dX3_takeFamily_82 : decode cX3_takeFamily 82 = .ok (.dup, 1) := by decide +kernel
theorem dX3_takeFamily_83 : decode cX3_takeFamily 83 = .ok (.getfield 34, 3) := by decide +kernel
theorem dX3_takeFamily_86 : decode cX3_takeFamily 86 = .ok (.iconst 1, 1) := by decide +kernel
theorem dX3_takeFamily_87 : decode cX3_takeFamily 87 = .ok (.iadd, 1) := by decide +kernel
theorem dX3_takeFamily_88 : decode cX3_takeFamily 88 = .ok (.putfield 34, 3) := by decide +kernel
theorem dX3_takeFamily_91 : decode cX3_takeFamily 91 = .ok (.iconst 1, 1) := by decide +kernel
theorem dX3_takeFamily_92 : decode cX3_takeFamily 92 = .ok (.ireturn, 1) := by decide +kernel
theorem dX3_lengthOf_0 : decode cX3_lengthOf 0 = .ok (.iload_n 1, 1) := by decide +kernel
theorem dX3_lengthOf_1 : decode cX3_lengthOf 1 = .ok (.ifCond .lt 21, 3) := by decide +kernel
theorem dX3_lengthOf_4 : decode cX3_lengthOf 4 = .ok (.iload_n 1, 1) := by decide +kernel
theorem dX3_lengthOf_5 : decode cX3_lengthOf 5 = .ok (.aload_n 0, 1) := by decide +kernel
theorem dX3_lengthOf_6 : decode cX3_lengthOf 6 = .ok (.getfield 24, 3) := by decide +kernel
theorem dX3_lengthOf_9 : decode cX3_lengthOf 9 = .ok (.arraylength, 1) := by decide +kernel
theorem dX3_lengthOf_10 : decode cX3_lengthOf 10 = .ok (.if_icmp .ge 12, 3) := by decide +kernel
theorem dX3_lengthOf_13 : decode cX3_lengthOf 13 = .ok (.aload_n 0, 1) := by decide +kernel
theorem dX3_lengthOf_14 : decode cX3_lengthOf 14 = .ok (.getfield 24, 3) := by decide +kernel
theorem dX3_lengthOf_17 : decode cX3_lengthOf 17 = .ok (.iload_n 1, 1) := by decide +kernel
theorem dX3_lengthOf_18 : decode cX3_lengthOf 18 = .ok (.iaload, 1) := by decide +kernel
theorem dX3_lengthOf_19 : decode cX3_lengthOf 19 = .ok (.goto 4, 3) := by decide +kernel
theorem dX3_lengthOf_22 : decode cX3_lengthOf 22 = .ok (.iconst 0, 1) := by decide +kernel
theorem dX3_lengthOf_23 : decode cX3_lengthOf 23 = .ok (.ireturn, 1) := by decide +kernel
theorem dX3_sortsOf_0 : decode cX3_sortsOf 0 = .ok (.iload_n 1, 1) := by decide +kernel
theorem dX3_sortsOf_1 : decode cX3_sortsOf 1 = .ok (.ifCond .lt 21, 3) := by decide +kernel
theorem dX3_sortsOf_4 : decode cX3_sortsOf 4 = .ok (.iload_n 1, 1) := by decide +kernel
theorem dX3_sortsOf_5 : decode cX3_sortsOf 5 = .ok (.aload_n 0, 1) := by decide +kernel
theorem dX3_sortsOf_6 : decode cX3_sortsOf 6 = .ok (.getfield 28, 3) := by decide +kernel
theorem dX3_sortsOf_9 : decode cX3_sortsOf 9 = .ok (.arraylength, 1) := by decide +kernel
theorem dX3_sortsOf_10 : decode cX3_sortsOf 10 = .ok (.if_icmp .ge 12, 3) := by decide +kernel
theorem dX3_sortsOf_13 : decode cX3_sortsOf 13 = .ok (.aload_n 0, 1) := by decide +kernel
theorem dX3_sortsOf_14 : decode cX3_sortsOf 14 = .ok (.getfield 28, 3) := by decide +kernel
theorem dX3_sortsOf_17 : decode cX3_sortsOf 17 = .ok (.iload_n 1, 1) := by decide +kernel
theorem dX3_sortsOf_18 : decode cX3_sortsOf 18 = .ok (.iaload, 1) := by decide +kernel
theorem dX3_sortsOf_19 : decode cX3_sortsOf 19 = .ok (.goto 4, 3) := by decide +kernel
theorem dX3_sortsOf_22 : decode cX3_sortsOf 22 = .ok (.iconst 0, 1) := by decide +kernel
theorem dX3_sortsOf_23 : decode cX3_sortsOf 23 = .ok (.ireturn, 1) := by decide +kernel
set_option maxRecDepth 20000 in
theorem ggX3_stopPlace_X5_lawStops : GoodIn wsX3_stopPlace wsX5_lawStops := goodIn_r _ [5] (by decide +kernel) (by decide +kernel)
set_option maxRecDepth 20000 in
theorem gX3_stopPlace_X5_lawStops_n73 : GoodIn wsX3_stopPlace (wsX5_lawStops) := ggX3_stopPlace_X5_lawStops
theorem dX3_stopPlace_0 : decode cX3_stopPlace 0 = .ok (.iconst 0, 1) := by decide +kernel
theorem dX3_stopPlace_1 : decode cX3_stopPlace 1 = .ok (.istore 4, 2) := by decide +kernel
theorem dX3_stopPlace_3 : decode cX3_stopPlace 3 = .ok (.iconst 0, 1) := by decide +kernel
theorem dX3_stopPlace_4 : decode cX3_stopPlace 4 = .ok (.istore 5, 2) := by decide +kernel
theorem dX3_stopPlace_6 : decode cX3_stopPlace 6 = .ok (.iconst 0, 1) := by decide +kernel
theorem dX3_stopPlace_7 : decode cX3_stopPlace 7 = .ok (.istore 6, 2) := by decide +kernel
theorem dX3_stopPlace_9 : decode cX3_stopPlace 9 = .ok (.iload 6, 2) := by decide +kernel
theorem dX3_stopPlace_11 : decode cX3_stopPlace 11 = .ok (.iload_n 2, 1) := by decide +kernel
theorem dX3_stopPlace_12 : decode cX3_stopPlace 12 = .ok (.if_icmp .ge 92, 3) := by decide +kernel
theorem dX3_stopPlace_15 : decode cX3_stopPlace 15 = .ok (.iload_n 3, 1) := by decide +kernel
theorem dX3_stopPlace_16 : decode cX3_stopPlace 16 = .ok (.iload 6, 2) := by decide +kernel
theorem dX3_stopPlace_18 : decode cX3_stopPlace 18 = .ok (.ishr, 1) := by decide +kernel
theorem dX3_stopPlace_19 : decode cX3_stopPlace 19 = .ok (.iconst 1, 1) := by decide +kernel
theorem dX3_stopPlace_20 : decode cX3_stopPlace 20 = .ok (.iand, 1) := by decide +kernel
theorem dX3_stopPlace_21 : decode cX3_stopPlace 21 = .ok (.iconst 1, 1) := by decide +kernel
theorem dX3_stopPlace_22 : decode cX3_stopPlace 22 = .ok (.if_icmp .ne 7, 3) := by decide +kernel
theorem dX3_stopPlace_25 : decode cX3_stopPlace 25 = .ok (.iconst 1, 1) := by decide +kernel
theorem dX3_stopPlace_26 : decode cX3_stopPlace 26 = .ok (.goto 4, 3) := by decide +kernel
theorem dX3_stopPlace_29 : decode cX3_stopPlace 29 = .ok (.iconst 0, 1) := by decide +kernel
theorem dX3_stopPlace_30 : decode cX3_stopPlace 30 = .ok (.istore 7, 2) := by decide +kernel
theorem dX3_stopPlace_32 : decode cX3_stopPlace 32 = .ok (.iload 4, 2) := by decide +kernel
theorem dX3_stopPlace_34 : decode cX3_stopPlace 34 = .ok (.iload 7, 2) := by decide +kernel
theorem dX3_stopPlace_36 : decode cX3_stopPlace 36 = .ok (.ifCond .eq 7, 3) := by decide +kernel
theorem dX3_stopPlace_39 : decode cX3_stopPlace 39 = .ok (.iconst 1, 1) := by decide +kernel
theorem dX3_stopPlace_40 : decode cX3_stopPlace 40 = .ok (.goto 4, 3) := by decide +kernel
theorem dX3_stopPlace_43 : decode cX3_stopPlace 43 = .ok (.iconst 0, 1) := by decide +kernel
theorem dX3_stopPlace_44 : decode cX3_stopPlace 44 = .ok (.iadd, 1) := by decide +kernel
theorem dX3_stopPlace_45 : decode cX3_stopPlace 45 = .ok (.istore 4, 2) := by decide +kernel
theorem dX3_stopPlace_47 : decode cX3_stopPlace 47 = .ok (.iload 7, 2) := by decide +kernel
theorem dX3_stopPlace_49 : decode cX3_stopPlace 49 = .ok (.ifCond .eq 10, 3) := by decide +kernel
theorem dX3_stopPlace_52 : decode cX3_stopPlace 52 = .ok (.iload 5, 2) := by decide +kernel
theorem dX3_stopPlace_54 : decode cX3_stopPlace 54 = .ok (.iconst 1, 1) := by decide +kernel
theorem dX3_stopPlace_55 : decode cX3_stopPlace 55 = .ok (.iadd, 1) := by decide +kernel
theorem dX3_stopPlace_56 : decode cX3_stopPlace 56 = .ok (.goto 4, 3) := by decide +kernel
theorem dX3_stopPlace_59 : decode cX3_stopPlace 59 = .ok (.iconst 0, 1) := by decide +kernel
theorem dX3_stopPlace_60 : decode cX3_stopPlace 60 = .ok (.istore 5, 2) := by decide +kernel
theorem dX3_stopPlace_62 : decode cX3_stopPlace 62 = .ok (.iload 6, 2) := by decide +kernel
theorem dX3_stopPlace_64 : decode cX3_stopPlace 64 = .ok (.iconst 1, 1) := by decide +kernel
theorem dX3_stopPlace_65 : decode cX3_stopPlace 65 = .ok (.iadd, 1) := by decide +kernel
theorem dX3_stopPlace_66 : decode cX3_stopPlace 66 = .ok (.aload_n 0, 1) := by decide +kernel
theorem dX3_stopPlace_67 : decode cX3_stopPlace 67 = .ok (.getfield 18, 3) := by decide +kernel
theorem dX3_stopPlace_70 : decode cX3_stopPlace 70 = .ok (.if_icmp .ge 25, 3) := by decide +kernel
theorem dX3_stopPlace_73 : decode cX3_stopPlace 73 = .ok (.iload_n 1, 1) := by decide +kernel
theorem dX3_stopPlace_74 : decode cX3_stopPlace 74 = .ok (.aload_n 0, 1) := by decide +kernel
theorem dX3_stopPlace_75 : decode cX3_stopPlace 75 = .ok (.getfield 15, 3) := by decide +kernel
theorem dX3_stopPlace_78 : decode cX3_stopPlace 78 = .ok (.iload 4, 2) := by decide +kernel
theorem dX3_stopPlace_80 : decode cX3_stopPlace 80 = .ok (.iload 6, 2) := by decide +kernel
theorem dX3_stopPlace_82 : decode cX3_stopPlace 82 = .ok (.iconst 1, 1) := by decide +kernel
theorem dX3_stopPlace_83 : decode cX3_stopPlace 83 = .ok (.iadd, 1) := by decide +kernel
theorem dX3_stopPlace_84 : decode cX3_stopPlace 84 = .ok (.iload 4, 2) := by decide +kernel
theorem dX3_stopPlace_86 : decode cX3_stopPlace 86 = .ok (.isub, 1) := by decide +kernel
theorem dX3_stopPlace_87 : decode cX3_stopPlace 87 = .ok (.iload 5, 2) := by decide +kernel
theorem dX3_stopPlace_89 : decode cX3_stopPlace 89 = .ok (.invokestatic 73, 3) := by decide +kernel
theorem dX3_stopPlace_92 : decode cX3_stopPlace 92 = .ok (.ifCond .eq 6, 3) := by decide +kernel
theorem dX3_stopPlace_95 : decode cX3_stopPlace 95 = .ok (.iload 6, 2) := by decide +kernel
theorem dX3_stopPlace_97 : decode cX3_stopPlace 97 = .ok (.ireturn, 1) := by decide +kernel
theorem dX3_stopPlace_98 : decode cX3_stopPlace 98 = .ok (.iinc 6 1, 3) := by decide +kernel
theorem dX3_stopPlace_101 : decode cX3_stopPlace 101 = .ok (.goto (-92), 3) := by decide +kernel
theorem dX3_stopPlace_104 : decode cX3_stopPlace 104 = .ok (.iload_n 2, 1) := by decide +kernel
theorem dX3_stopPlace_105 : decode cX3_stopPlace 105 = .ok (.ireturn, 1) := by decide +kernel
set_option maxRecDepth 20000 in
theorem ggX3_endsAllSeen_X3_lengthOf : GoodIn wsX3_endsAllSeen wsX3_lengthOf := goodIn_r _ [6, 7, 22, 23, 24, 25, 26, 27, 28, 29] (by decide +kernel) (by decide +kernel)
set_option maxRecDepth 20000 in
theorem gX3_endsAllSeen_X3_lengthOf : GoodIn wsX3_endsAllSeen (wsV RX3 37 RX3 yX3_lengthOf wsX3_lengthOf) := goodIn_app (goodIn_of _ (by decide +kernel)) ggX3_endsAllSeen_X3_lengthOf
set_option maxRecDepth 20000 in
theorem ggX3_endsAllSeen_X3_sortsOf : GoodIn wsX3_endsAllSeen wsX3_sortsOf := goodIn_r _ [11, 12, 22, 23, 24, 25, 26, 27, 28, 29] (by decide +kernel) (by decide +kernel)
set_option maxRecDepth 20000 in
theorem gX3_endsAllSeen_X3_sortsOf : GoodIn wsX3_endsAllSeen (wsV RX3 41 RX3 yX3_sortsOf wsX3_sortsOf) := goodIn_app (goodIn_of _ (by decide +kernel)) ggX3_endsAllSeen_X3_sortsOf
set_option maxRecDepth 20000 in
theorem ggX3_endsAllSeen_X3_stopPlace : GoodIn wsX3_endsAllSeen wsX3_stopPlace := goodIn_r _ [16, 17, 18, 19, 20, 21, 22, 23, 24, 25, 26, 27, 28, 29] (by decide +kernel) (by decide +kernel)
set_option maxRecDepth 20000 in
theorem gX3_endsAllSeen_X3_stopPlace : GoodIn wsX3_endsAllSeen (wsV RX3 77 RX3 yX3_stopPlace wsX3_stopPlace) := goodIn_app (goodIn_of _ (by decide +kernel)) ggX3_endsAllSeen_X3_stopPlace
theorem dX3_endsAllSeen_0 : decode cX3_endsAllSeen 0 = .ok (.iconst 0, 1) := by decide +kernel
theorem dX3_endsAllSeen_1 : decode cX3_endsAllSeen 1 = .ok (.istore_n 2, 1) := by decide +kernel
theorem dX3_endsAllSeen_2 : decode cX3_endsAllSeen 2 = .ok (.iload_n 2, 1) := by decide +kernel
theorem dX3_endsAllSeen_3 : decode cX3_endsAllSeen 3 = .ok (.aload_n 0, 1) := by decide +kernel
theorem dX3_endsAllSeen_4 : decode cX3_endsAllSeen 4 = .ok (.getfield 34, 3) := by decide +kernel
theorem dX3_endsAllSeen_7 : decode cX3_endsAllSeen 7 = .ok (.if_icmp .ge 36, 3) := by decide +kernel
theorem dX3_endsAllSeen_10 : decode cX3_endsAllSeen 10 = .ok (.aload_n 0, 1) := by decide +kernel
theorem dX3_endsAllSeen_11 : decode cX3_endsAllSeen 11 = .ok (.iload_n 1, 1) := by decide +kernel
theorem dX3_endsAllSeen_12 : decode cX3_endsAllSeen 12 = .ok (.aload_n 0, 1) := by decide +kernel
theorem dX3_endsAllSeen_13 : decode cX3_endsAllSeen 13 = .ok (.iload_n 2, 1) := by decide +kernel
theorem dX3_endsAllSeen_14 : decode cX3_endsAllSeen 14 = .ok (.invokevirtual 37, 3) := by decide +kernel
theorem dX3_endsAllSeen_17 : decode cX3_endsAllSeen 17 = .ok (.aload_n 0, 1) := by decide +kernel
theorem dX3_endsAllSeen_18 : decode cX3_endsAllSeen 18 = .ok (.iload_n 2, 1) := by decide +kernel
theorem dX3_endsAllSeen_19 : decode cX3_endsAllSeen 19 = .ok (.invokevirtual 41, 3) := by decide +kernel
theorem dX3_endsAllSeen_22 : decode cX3_endsAllSeen 22 = .ok (.invokevirtual 77, 3) := by decide +kernel
theorem dX3_endsAllSeen_25 : decode cX3_endsAllSeen 25 = .ok (.aload_n 0, 1) := by decide +kernel
theorem dX3_endsAllSeen_26 : decode cX3_endsAllSeen 26 = .ok (.iload_n 2, 1) := by decide +kernel
theorem dX3_endsAllSeen_27 : decode cX3_endsAllSeen 27 = .ok (.invokevirtual 37, 3) := by decide +kernel
theorem dX3_endsAllSeen_30 : decode cX3_endsAllSeen 30 = .ok (.iconst 1, 1) := by decide +kernel
theorem dX3_endsAllSeen_31 : decode cX3_endsAllSeen 31 = .ok (.isub, 1) := by decide +kernel
theorem dX3_endsAllSeen_32 : decode cX3_endsAllSeen 32 = .ok (.if_icmp .eq 5, 3) := by decide +kernel
theorem dX3_endsAllSeen_35 : decode cX3_endsAllSeen 35 = .ok (.iconst 0, 1) := by decide +kernel
theorem dX3_endsAllSeen_36 : decode cX3_endsAllSeen 36 = .ok (.ireturn, 1) := by decide +kernel
theorem dX3_endsAllSeen_37 : decode cX3_endsAllSeen 37 = .ok (.iinc 2 1, 3) := by decide +kernel
theorem dX3_endsAllSeen_40 : decode cX3_endsAllSeen 40 = .ok (.goto (-38), 3) := by decide +kernel
theorem dX3_endsAllSeen_43 : decode cX3_endsAllSeen 43 = .ok (.iconst 1, 1) := by decide +kernel
theorem dX3_endsAllSeen_44 : decode cX3_endsAllSeen 44 = .ok (.ireturn, 1) := by decide +kernel
set_option maxRecDepth 20000 in
theorem ggX3_countStoppedAhead_X3_lengthOf : GoodIn wsX3_countStoppedAhead wsX3_lengthOf := goodIn_r _ [6, 7, 22, 23, 24, 25, 26, 27, 28, 29] (by decide +kernel) (by decide +kernel)
set_option maxRecDepth 20000 in
theorem gX3_countStoppedAhead_X3_lengthOf : GoodIn wsX3_countStoppedAhead (wsV RX3 37 RX3 yX3_lengthOf wsX3_lengthOf) := goodIn_app (goodIn_of _ (by decide +kernel)) ggX3_countStoppedAhead_X3_lengthOf
set_option maxRecDepth 20000 in
theorem ggX3_countStoppedAhead_X3_sortsOf : GoodIn wsX3_countStoppedAhead wsX3_sortsOf := goodIn_r _ [11, 12, 22, 23, 24, 25, 26, 27, 28, 29] (by decide +kernel) (by decide +kernel)
set_option maxRecDepth 20000 in
theorem gX3_countStoppedAhead_X3_sortsOf : GoodIn wsX3_countStoppedAhead (wsV RX3 41 RX3 yX3_sortsOf wsX3_sortsOf) := goodIn_app (goodIn_of _ (by decide +kernel)) ggX3_countStoppedAhead_X3_sortsOf
set_option maxRecDepth 20000 in
theorem ggX3_countStoppedAhead_X3_stopPlace : GoodIn wsX3_countStoppedAhead wsX3_stopPlace := goodIn_r _ [16, 17, 18, 19, 20, 21, 22, 23, 24, 25, 26, 27, 28, 29] (by decide +kernel) (by decide +kernel)
set_option maxRecDepth 20000 in
theorem gX3_countStoppedAhead_X3_stopPlace : GoodIn wsX3_countStoppedAhead (wsV RX3 77 RX3 yX3_stopPlace wsX3_stopPlace) := goodIn_app (goodIn_of _ (by decide +kernel)) ggX3_countStoppedAhead_X3_stopPlace
theorem dX3_countStoppedAhead_0 : decode cX3_countStoppedAhead 0 = .ok (.iconst 0, 1) := by decide +kernel
theorem dX3_countStoppedAhead_1 : decode cX3_countStoppedAhead 1 = .ok (.istore_n 2, 1) := by decide +kernel
theorem dX3_countStoppedAhead_2 : decode cX3_countStoppedAhead 2 = .ok (.iconst 0, 1) := by decide +kernel
theorem dX3_countStoppedAhead_3 : decode cX3_countStoppedAhead 3 = .ok (.istore_n 3, 1) := by decide +kernel
theorem dX3_countStoppedAhead_4 : decode cX3_countStoppedAhead 4 = .ok (.iload_n 3, 1) := by decide +kernel
theorem dX3_countStoppedAhead_5 : decode cX3_countStoppedAhead 5 = .ok (.aload_n 0, 1) := by decide +kernel
theorem dX3_countStoppedAhead_6 : decode cX3_countStoppedAhead 6 = .ok (.getfield 34, 3) := by decide +kernel
theorem dX3_countStoppedAhead_9 : decode cX3_countStoppedAhead 9 = .ok (.if_icmp .ge 37, 3) := by decide +kernel
theorem dX3_countStoppedAhead_12 : decode cX3_countStoppedAhead 12 = .ok (.aload_n 0, 1) := by decide +kernel
theorem dX3_countStoppedAhead_13 : decode cX3_countStoppedAhead 13 = .ok (.iload_n 1, 1) := by decide +kernel
theorem dX3_countStoppedAhead_14 : decode cX3_countStoppedAhead 14 = .ok (.aload_n 0, 1) := by decide +kernel
theorem dX3_countStoppedAhead_15 : decode cX3_countStoppedAhead 15 = .ok (.iload_n 3, 1) := by decide +kernel
theorem dX3_countStoppedAhead_16 : decode cX3_countStoppedAhead 16 = .ok (.invokevirtual 37, 3) := by decide +kernel
theorem dX3_countStoppedAhead_19 : decode cX3_countStoppedAhead 19 = .ok (.aload_n 0, 1) := by decide +kernel
theorem dX3_countStoppedAhead_20 : decode cX3_countStoppedAhead 20 = .ok (.iload_n 3, 1) := by decide +kernel
theorem dX3_countStoppedAhead_21 : decode cX3_countStoppedAhead 21 = .ok (.invokevirtual 41, 3) := by decide +kernel
theorem dX3_countStoppedAhead_24 : decode cX3_countStoppedAhead 24 = .ok (.invokevirtual 77, 3) := by decide +kernel
theorem dX3_countStoppedAhead_27 : decode cX3_countStoppedAhead 27 = .ok (.aload_n 0, 1) := by decide +kernel
theorem dX3_countStoppedAhead_28 : decode cX3_countStoppedAhead 28 = .ok (.iload_n 3, 1) := by decide +kernel
theorem dX3_countStoppedAhead_29 : decode cX3_countStoppedAhead 29 = .ok (.invokevirtual 37, 3) := by decide +kernel
theorem dX3_countStoppedAhead_32 : decode cX3_countStoppedAhead 32 = .ok (.iconst 1, 1) := by decide +kernel
theorem dX3_countStoppedAhead_33 : decode cX3_countStoppedAhead 33 = .ok (.isub, 1) := by decide +kernel
theorem dX3_countStoppedAhead_34 : decode cX3_countStoppedAhead 34 = .ok (.if_icmp .ge 6, 3) := by decide +kernel
theorem dX3_countStoppedAhead_37 : decode cX3_countStoppedAhead 37 = .ok (.iinc 2 1, 3) := by decide +kernel
theorem dX3_countStoppedAhead_40 : decode cX3_countStoppedAhead 40 = .ok (.iinc 3 1, 3) := by decide +kernel
theorem dX3_countStoppedAhead_43 : decode cX3_countStoppedAhead 43 = .ok (.goto (-39), 3) := by decide +kernel
theorem dX3_countStoppedAhead_46 : decode cX3_countStoppedAhead 46 = .ok (.iload_n 2, 1) := by decide +kernel
theorem dX3_countStoppedAhead_47 : decode cX3_countStoppedAhead 47 = .ok (.ireturn, 1) := by decide +kernel
set_option maxRecDepth 20000 in
theorem ggX4_init_X0_init : GoodIn wsX4_init wsX0_init := goodIn_r _ [10, 11, 2, 3, 12, 13, 14] (by decide +kernel) (by decide +kernel)
set_option maxRecDepth 20000 in
theorem gX4_init_X0_init_n11 : GoodIn wsX4_init (wsX0_init) := ggX4_init_X0_init
theorem dX4_init_0 : decode cX4_init 0 = .ok (.aload_n 0, 1) := by decide +kernel
theorem dX4_init_1 : decode cX4_init 1 = .ok (.invokespecial 3, 3) := by decide +kernel
theorem dX4_init_4 : decode cX4_init 4 = .ok (.aload_n 0, 1) := by decide +kernel
theorem dX4_init_5 : decode cX4_init 5 = .ok (.new 9, 3) := by decide +kernel
theorem dX4_init_8 : decode cX4_init 8 = .ok (.dup, 1) := by decide +kernel
theorem dX4_init_9 : decode cX4_init 9 = .ok (.invokespecial 11, 3) := by decide +kernel
theorem dX4_init_12 : decode cX4_init 12 = .ok (.putfield 12, 3) := by decide +kernel
theorem dX4_init_15 : decode cX4_init 15 = .ok (.aload_n 0, 1) := by decide +kernel
theorem dX4_init_16 : decode cX4_init 16 = .ok (.new 9, 3) := by decide +kernel
theorem dX4_init_19 : decode cX4_init 19 = .ok (.dup, 1) := by decide +kernel
theorem dX4_init_20 : decode cX4_init 20 = .ok (.invokespecial 11, 3) := by decide +kernel
theorem dX4_init_23 : decode cX4_init 23 = .ok (.putfield 18, 3) := by decide +kernel
theorem dX4_init_26 : decode cX4_init 26 = .ok (.return_, 1) := by decide +kernel
set_option maxRecDepth 20000 in
theorem ggX4_begin_X0_clear : GoodIn wsX4_begin wsX0_clear := goodIn_r _ [7, 8, 9, 10, 11, 12, 22] (by decide +kernel) (by decide +kernel)
set_option maxRecDepth 20000 in
theorem gX4_begin_X0_clear : GoodIn wsX4_begin (wsV RX4 21 RX0 yX0_clear wsX0_clear) := goodIn_app (goodIn_of _ (by decide +kernel)) ggX4_begin_X0_clear
set_option maxRecDepth 20000 in
theorem ggX4_begin_X0_add : GoodIn wsX4_begin wsX0_add := goodIn_r _ [16, 8, 17, 18, 6, 19, 22] (by decide +kernel) (by decide +kernel)
set_option maxRecDepth 20000 in
theorem gX4_begin_X0_add : GoodIn wsX4_begin (wsV RX4 24 RX0 yX0_add wsX0_add) := goodIn_app (goodIn_of _ (by decide +kernel)) ggX4_begin_X0_add
theorem dX4_begin_0 : decode cX4_begin 0 = .ok (.aload_n 0, 1) := by decide +kernel
theorem dX4_begin_1 : decode cX4_begin 1 = .ok (.getfield 12, 3) := by decide +kernel
theorem dX4_begin_4 : decode cX4_begin 4 = .ok (.invokevirtual 21, 3) := by decide +kernel
theorem dX4_begin_7 : decode cX4_begin 7 = .ok (.aload_n 0, 1) := by decide +kernel
theorem dX4_begin_8 : decode cX4_begin 8 = .ok (.getfield 18, 3) := by decide +kernel
theorem dX4_begin_11 : decode cX4_begin 11 = .ok (.invokevirtual 21, 3) := by decide +kernel
theorem dX4_begin_14 : decode cX4_begin 14 = .ok (.aload_n 0, 1) := by decide +kernel
theorem dX4_begin_15 : decode cX4_begin 15 = .ok (.getfield 12, 3) := by decide +kernel
theorem dX4_begin_18 : decode cX4_begin 18 = .ok (.iconst 1, 1) := by decide +kernel
theorem dX4_begin_19 : decode cX4_begin 19 = .ok (.iconst 1, 1) := by decide +kernel
theorem dX4_begin_20 : decode cX4_begin 20 = .ok (.iconst 1, 1) := by decide +kernel
theorem dX4_begin_21 : decode cX4_begin 21 = .ok (.iload_n 1, 1) := by decide +kernel
theorem dX4_begin_22 : decode cX4_begin 22 = .ok (.i2l, 1) := by decide +kernel
theorem dX4_begin_23 : decode cX4_begin 23 = .ok (.invokevirtual 24, 3) := by decide +kernel
theorem dX4_begin_26 : decode cX4_begin 26 = .ok (.aload_n 0, 1) := by decide +kernel
theorem dX4_begin_27 : decode cX4_begin 27 = .ok (.getfield 12, 3) := by decide +kernel
theorem dX4_begin_30 : decode cX4_begin 30 = .ok (.iconst 0, 1) := by decide +kernel
theorem dX4_begin_31 : decode cX4_begin 31 = .ok (.iconst 0, 1) := by decide +kernel
theorem dX4_begin_32 : decode cX4_begin 32 = .ok (.iconst 0, 1) := by decide +kernel
theorem dX4_begin_33 : decode cX4_begin 33 = .ok (.bipush 12, 2) := by decide +kernel
theorem dX4_begin_35 : decode cX4_begin 35 = .ok (.iload_n 1, 1) := by decide +kernel
theorem dX4_begin_36 : decode cX4_begin 36 = .ok (.isub, 1) := by decide +kernel
theorem dX4_begin_37 : decode cX4_begin 37 = .ok (.i2l, 1) := by decide +kernel
theorem dX4_begin_38 : decode cX4_begin 38 = .ok (.invokevirtual 24, 3) := by decide +kernel
theorem dX4_begin_41 : decode cX4_begin 41 = .ok (.return_, 1) := by decide +kernel
set_option maxRecDepth 20000 in
theorem ggX4_stepOn_X0_clear : GoodIn wsX4_stepOn wsX0_clear := goodIn_r _ [7, 8, 9, 10, 11, 12, 15] (by decide +kernel) (by decide +kernel)
set_option maxRecDepth 20000 in
theorem gX4_stepOn_X0_clear : GoodIn wsX4_stepOn (wsV RX4 21 RX0 yX0_clear wsX0_clear) := goodIn_app (goodIn_of _ (by decide +kernel)) ggX4_stepOn_X0_clear
theorem dX4_stepOn_0 : decode cX4_stepOn 0 = .ok (.aload_n 0, 1) := by decide +kernel
theorem dX4_stepOn_1 : decode cX4_stepOn 1 = .ok (.getfield 12, 3) := by decide +kernel
theorem dX4_stepOn_4 : decode cX4_stepOn 4 = .ok (.astore_n 1, 1) := by decide +kernel
theorem dX4_stepOn_5 : decode cX4_stepOn 5 = .ok (.aload_n 0, 1) := by decide +kernel
theorem dX4_stepOn_6 : decode cX4_stepOn 6 = .ok (.aload_n 0, 1) := by decide +kernel
theorem dX4_stepOn_7 : decode cX4_stepOn 7 = .ok (.getfield 18, 3) := by decide +kernel
theorem dX4_stepOn_10 : decode cX4_stepOn 10 = .ok (.putfield 12, 3) := by decide +kernel
theorem dX4_stepOn_13 : decode cX4_stepOn 13 = .ok (.aload_n 0, 1) := by decide +kernel
theorem dX4_stepOn_14 : decode cX4_stepOn 14 = .ok (.aload_n 1, 1) := by decide +kernel
theorem dX4_stepOn_15 : decode cX4_stepOn 15 = .ok (.putfield 18, 3) := by decide +kernel
theorem dX4_stepOn_18 : decode cX4_stepOn 18 = .ok (.aload_n 0, 1) := by decide +kernel
theorem dX4_stepOn_19 : decode cX4_stepOn 19 = .ok (.getfield 18, 3) := by decide +kernel
theorem dX4_stepOn_22 : decode cX4_stepOn 22 = .ok (.invokevirtual 21, 3) := by decide +kernel
theorem dX4_stepOn_25 : decode cX4_stepOn 25 = .ok (.return_, 1) := by decide +kernel
end
section
set_option maxRecDepth 20000 in
theorem ggX5_init_X3_init : GoodIn wsX5_init wsX3_init := goodIn_r _ [25, 26, 2, 3, 27, 28, 29, 30, 14, 31, 32, 58, 59, 60, 61, 62, 63, 64, 65] (by decide +kernel) (by decide +kernel)
set_option maxRecDepth 20000 in
theorem gX5_init_X3_init_n9 : GoodIn wsX5_init (wsX3_init) := ggX5_init_X3_init
set_option maxRecDepth 20000 in
theorem ggX5_init_X2_init : GoodIn wsX5_init wsX2_init := goodIn_r _ [34, 35, 2, 3, 14, 36, 76, 77] (by decide +kernel) (by decide +kernel)
set_option maxRecDepth 20000 in
theorem gX5_init_X2_init_n24 : GoodIn wsX5_init (wsX2_init) := ggX5_init_X2_init
set_option maxRecDepth 20000 in
theorem ggX5_init_X4_init : GoodIn wsX5_init wsX4_init := goodIn_r _ [38, 39, 2, 3, 40, 41, 42, 43, 44, 45, 46, 47, 48, 49, 87, 78, 79] (by decide +kernel) (by decide +kernel)
set_option maxRecDepth 20000 in
theorem gX5_init_X4_init_n41 : GoodIn wsX5_init (wsX4_init) := ggX5_init_X4_init
set_option maxRecDepth 20000 in
theorem ggX5_init_X1_init : GoodIn wsX5_init wsX1_init := goodIn_r _ [52, 53, 2, 3, 54, 41, 42, 55, 56, 57, 45, 46, 47, 48, 49, 87, 80, 81, 82, 83, 84, 85, 86] (by decide +kernel) (by decide +kernel)
set_option maxRecDepth 20000 in
theorem gX5_init_X1_init : GoodIn wsX5_init (wsX1_init) := ggX5_init_X1_init
theorem dX5_init_0 : decode cX5_init 0 = .ok (.aload_n 0, 1) := by decide +kernel
theorem dX5_init_1 : decode cX5_init 1 = .ok (.invokespecial 1, 3) := by decide +kernel
theorem dX5_init_4 : decode cX5_init 4 = .ok (.aload_n 0, 1) := by decide +kernel
theorem dX5_init_5 : decode cX5_init 5 = .ok (.new 7, 3) := by decide +kernel
theorem dX5_init_8 : decode cX5_init 8 = .ok (.dup, 1) := by decide +kernel
theorem dX5_init_9 : decode cX5_init 9 = .ok (.invokespecial 9, 3) := by decide +kernel
theorem dX5_init_12 : decode cX5_init 12 = .ok (.putfield 10, 3) := by decide +kernel
theorem dX5_init_15 : decode cX5_init 15 = .ok (.aload_n 0, 1) := by decide +kernel
theorem dX5_init_16 : decode cX5_init 16 = .ok (.new 7, 3) := by decide +kernel
theorem dX5_init_19 : decode cX5_init 19 = .ok (.dup, 1) := by decide +kernel
theorem dX5_init_20 : decode cX5_init 20 = .ok (.invokespecial 9, 3) := by decide +kernel
theorem dX5_init_23 : decode cX5_init 23 = .ok (.putfield 16, 3) := by decide +kernel
theorem dX5_init_26 : decode cX5_init 26 = .ok (.aload_n 0, 1) := by decide +kernel
theorem dX5_init_27 : decode cX5_init 27 = .ok (.new 7, 3) := by decide +kernel
theorem dX5_init_30 : decode cX5_init 30 = .ok (.dup, 1) := by decide +kernel
theorem dX5_init_31 : decode cX5_init 31 = .ok (.invokespecial 9, 3) := by decide +kernel
theorem dX5_init_34 : decode cX5_init 34 = .ok (.putfield 19, 3) := by decide +kernel
theorem dX5_init_37 : decode cX5_init 37 = .ok (.aload_n 0, 1) := by decide +kernel
theorem dX5_init_38 : decode cX5_init 38 = .ok (.new 22, 3) := by decide +kernel
theorem dX5_init_41 : decode cX5_init 41 = .ok (.dup, 1) := by decide +kernel
theorem dX5_init_42 : decode cX5_init 42 = .ok (.invokespecial 24, 3) := by decide +kernel
theorem dX5_init_45 : decode cX5_init 45 = .ok (.putfield 25, 3) := by decide +kernel
theorem dX5_init_48 : decode cX5_init 48 = .ok (.aload_n 0, 1) := by decide +kernel
theorem dX5_init_49 : decode cX5_init 49 = .ok (.bipush 6, 2) := by decide +kernel
theorem dX5_init_51 : decode cX5_init 51 = .ok (.newarray .int, 2) := by decide +kernel
theorem dX5_init_53 : decode cX5_init 53 = .ok (.putfield 29, 3) := by decide +kernel
theorem dX5_init_56 : decode cX5_init 56 = .ok (.aload_n 0, 1) := by decide +kernel
theorem dX5_init_57 : decode cX5_init 57 = .ok (.bipush 6, 2) := by decide +kernel
theorem dX5_init_59 : decode cX5_init 59 = .ok (.anewarray 33, 3) := by decide +kernel
theorem dX5_init_62 : decode cX5_init 62 = .ok (.putfield 35, 3) := by decide +kernel
theorem dX5_init_65 : decode cX5_init 65 = .ok (.new 39, 3) := by decide +kernel
theorem dX5_init_68 : decode cX5_init 68 = .ok (.dup, 1) := by decide +kernel
theorem dX5_init_69 : decode cX5_init 69 = .ok (.invokespecial 41, 3) := by decide +kernel
theorem dX5_init_72 : decode cX5_init 72 = .ok (.astore_n 1, 1) := by decide +kernel
theorem dX5_init_73 : decode cX5_init 73 = .ok (.iconst 0, 1) := by decide +kernel
theorem dX5_init_74 : decode cX5_init 74 = .ok (.istore_n 2, 1) := by decide +kernel
theorem dX5_init_75 : decode cX5_init 75 = .ok (.iload_n 2, 1) := by decide +kernel
theorem dX5_init_76 : decode cX5_init 76 = .ok (.aload_n 0, 1) := by decide +kernel
theorem dX5_init_77 : decode cX5_init 77 = .ok (.getfield 35, 3) := by decide +kernel
theorem dX5_init_80 : decode cX5_init 80 = .ok (.arraylength, 1) := by decide +kernel
theorem dX5_init_81 : decode cX5_init 81 = .ok (.if_icmp .ge 23, 3) := by decide +kernel
theorem dX5_init_84 : decode cX5_init 84 = .ok (.aload_n 0, 1) := by decide +kernel
theorem dX5_init_85 : decode cX5_init 85 = .ok (.getfield 35, 3) := by decide +kernel
theorem dX5_init_88 : decode cX5_init 88 = .ok (.iload_n 2, 1) := by decide +kernel
theorem dX5_init_89 : decode cX5_init 89 = .ok (.new 33, 3) := by decide +kernel
theorem dX5_init_92 : decode cX5_init 92 = .ok (.dup, 1) := by decide +kernel
theorem dX5_init_93 : decode cX5_init 93 = .ok (.aload_n 1, 1) := by decide +kernel
theorem dX5_init_94 : decode cX5_init 94 = .ok (.invokespecial 42, 3) := by decide +kernel
theorem dX5_init_97 : decode cX5_init 97 = .ok (.aastore, 1) := by decide +kernel
theorem dX5_init_98 : decode cX5_init 98 = .ok (.iinc 2 1, 3) := by decide +kernel
theorem dX5_init_101 : decode cX5_init 101 = .ok (.goto (-26), 3) := by decide +kernel
theorem dX5_init_104 : decode cX5_init 104 = .ok (.aload_n 0, 1) := by decide +kernel
theorem dX5_init_105 : decode cX5_init 105 = .ok (.new 33, 3) := by decide +kernel
theorem dX5_init_108 : decode cX5_init 108 = .ok (.dup, 1) := by decide +kernel
theorem dX5_init_109 : decode cX5_init 109 = .ok (.aload_n 1, 1) := by decide +kernel
theorem dX5_init_110 : decode cX5_init 110 = .ok (.invokespecial 42, 3) := by decide +kernel
theorem dX5_init_113 : decode cX5_init 113 = .ok (.putfield 45, 3) := by decide +kernel
theorem dX5_init_116 : decode cX5_init 116 = .ok (.return_, 1) := by decide +kernel
set_option maxRecDepth 20000 in
theorem ggX5_letter_X5_refuse : GoodIn wsX5_letter wsX5_refuse := goodIn_r _ [6, 7, 15, 16, 17, 18, 19, 20, 21, 22, 23, 24] (by decide +kernel) (by decide +kernel)
set_option maxRecDepth 20000 in
theorem gX5_letter_X5_refuse : GoodIn wsX5_letter (wsV RX5 49 RX5 yX5_refuse wsX5_refuse) := goodIn_app (goodIn_of _ (by decide +kernel)) ggX5_letter_X5_refuse
set_option maxRecDepth 20000 in
theorem ggX5_letter_X2_append : GoodIn wsX5_letter wsX2_append := goodIn_r _ [12, 13, 14, 25, 26] (by decide +kernel) (by decide +kernel)
set_option maxRecDepth 20000 in
theorem gX5_letter_X2_append : GoodIn wsX5_letter (wsV RX5 57 RX2 yX2_append wsX2_append) := goodIn_app (goodIn_of _ (by decide +kernel)) ggX5_letter_X2_append
theorem dX5_letter_0 : decode cX5_letter 0 = .ok (.iload_n 1, 1) := by decide +kernel
theorem dX5_letter_1 : decode cX5_letter 1 = .ok (.ifCond .ge 10, 3) := by decide +kernel
theorem dX5_letter_4 : decode cX5_letter 4 = .ok (.aload_n 0, 1) := by decide +kernel
theorem dX5_letter_5 : decode cX5_letter 5 = .ok (.bipush (-4), 2) := by decide +kernel
theorem dX5_letter_7 : decode cX5_letter 7 = .ok (.invokevirtual 49, 3) := by decide +kernel
theorem dX5_letter_10 : decode cX5_letter 10 = .ok (.ireturn, 1) := by decide +kernel
theorem dX5_letter_11 : decode cX5_letter 11 = .ok (.iload_n 1, 1) := by decide +kernel
theorem dX5_letter_12 : decode cX5_letter 12 = .ok (.sipush 255, 3) := by decide +kernel
theorem dX5_letter_15 : decode cX5_letter 15 = .ok (.if_icmp .gt 15, 3) := by decide +kernel
theorem dX5_letter_18 : decode cX5_letter 18 = .ok (.aload_n 0, 1) := by decide +kernel
theorem dX5_letter_19 : decode cX5_letter 19 = .ok (.getfield 25, 3) := by decide +kernel
theorem dX5_letter_22 : decode cX5_letter 22 = .ok (.getfield 53, 3) := by decide +kernel
theorem dX5_letter_25 : decode cX5_letter 25 = .ok (.bipush 64, 2) := by decide +kernel
theorem dX5_letter_27 : decode cX5_letter 27 = .ok (.if_icmp .lt 10, 3) := by decide +kernel
theorem dX5_letter_30 : decode cX5_letter 30 = .ok (.aload_n 0, 1) := by decide +kernel
theorem dX5_letter_31 : decode cX5_letter 31 = .ok (.bipush (-6), 2) := by decide +kernel
theorem dX5_letter_33 : decode cX5_letter 33 = .ok (.invokevirtual 49, 3) := by decide +kernel
theorem dX5_letter_36 : decode cX5_letter 36 = .ok (.ireturn, 1) := by decide +kernel
theorem dX5_letter_37 : decode cX5_letter 37 = .ok (.aload_n 0, 1) := by decide +kernel
theorem dX5_letter_38 : decode cX5_letter 38 = .ok (.getfield 25, 3) := by decide +kernel
theorem dX5_letter_41 : decode cX5_letter 41 = .ok (.iload_n 1, 1) := by decide +kernel
theorem dX5_letter_42 : decode cX5_letter 42 = .ok (.invokevirtual 57, 3) := by decide +kernel
theorem dX5_letter_45 : decode cX5_letter 45 = .ok (.aload_n 0, 1) := by decide +kernel
theorem dX5_letter_46 : decode cX5_letter 46 = .ok (.getfield 25, 3) := by decide +kernel
theorem dX5_letter_49 : decode cX5_letter 49 = .ok (.getfield 53, 3) := by decide +kernel
theorem dX5_letter_52 : decode cX5_letter 52 = .ok (.ireturn, 1) := by decide +kernel
set_option maxRecDepth 20000 in
theorem ggX5_land_X2_firstFault : GoodIn wsX5_land wsX2_firstFault := goodIn_r _ [6, 7, 8, 9, 10, 5, 11, 12, 13, 14, 15, 16, 17, 18, 19, 20, 21, 22, 23, 24, 25, 26, 27, 95, 96] (by decide +kernel) (by decide +kernel)
set_option maxRecDepth 20000 in
theorem gX5_land_X2_firstFault : GoodIn wsX5_land (wsV RX5 61 RX2 yX2_firstFault wsX2_firstFault) := goodIn_app (goodIn_of _ (by decide +kernel)) ggX5_land_X2_firstFault
set_option maxRecDepth 20000 in
theorem ggX5_land_X5_tellText : GoodIn wsX5_land wsX5_tellText := goodIn_r _ [32, 33, 34, 1, 35, 36, 37, 38, 39, 40, 41, 42, 43, 44, 45, 46, 47, 48, 49, 50, 51, 52, 53, 54, 55, 56, 9, 10, 5, 11, 12, 13, 14, 15, 7, 16, 17, 18, 19, 20, 21, 22, 23, 24, 25, 26, 27, 57, 58, 59, 60, 61, 62, 63, 64, 65, 66, 67, 68, 69, 70, 71, 72, 73, 74, 75, 76, 77, 78, 79, 80, 81, 82, 83, 84, 85, 86, 87, 88, 89, 90, 91, 92, 93, 94, 95, 96, 97, 98, 99, 100, 101, 102, 103, 104] (by decide +kernel) (by decide +kernel)
set_option maxRecDepth 20000 in
theorem gX5_land_X5_tellText : GoodIn wsX5_land (wsV RX5 65 RX5 yX5_tellText wsX5_tellText) := goodIn_app (goodIn_of _ (by decide +kernel)) ggX5_land_X5_tellText
theorem dX5_land_0 : decode cX5_land 0 = .ok (.aload_n 0, 1) := by decide +kernel
theorem dX5_land_1 : decode cX5_land 1 = .ok (.getfield 25, 3) := by decide +kernel
theorem dX5_land_4 : decode cX5_land 4 = .ok (.invokevirtual 61, 3) := by decide +kernel
theorem dX5_land_7 : decode cX5_land 7 = .ok (.istore_n 1, 1) := by decide +kernel
theorem dX5_land_8 : decode cX5_land 8 = .ok (.iload_n 1, 1) := by decide +kernel
theorem dX5_land_9 : decode cX5_land 9 = .ok (.ifCond .lt 11, 3) := by decide +kernel
theorem dX5_land_12 : decode cX5_land 12 = .ok (.sipush (-1000), 3) := by decide +kernel
theorem dX5_land_15 : decode cX5_land 15 = .ok (.iload_n 1, 1) := by decide +kernel
theorem dX5_land_16 : decode cX5_land 16 = .ok (.isub, 1) := by decide +kernel
theorem dX5_land_17 : decode cX5_land 17 = .ok (.goto 7, 3) := by decide +kernel
theorem dX5_land_20 : decode cX5_land 20 = .ok (.aload_n 0, 1) := by decide +kernel
theorem dX5_land_21 : decode cX5_land 21 = .ok (.invokevirtual 65, 3) := by decide +kernel
theorem dX5_land_24 : decode cX5_land 24 = .ok (.istore_n 2, 1) := by decide +kernel
theorem dX5_land_25 : decode cX5_land 25 = .ok (.aload_n 0, 1) := by decide +kernel
theorem dX5_land_26 : decode cX5_land 26 = .ok (.getfield 25, 3) := by decide +kernel
theorem dX5_land_29 : decode cX5_land 29 = .ok (.iconst 0, 1) := by decide +kernel
theorem dX5_land_30 : decode cX5_land 30 = .ok (.putfield 53, 3) := by decide +kernel
theorem dX5_land_33 : decode cX5_land 33 = .ok (.iload_n 2, 1) := by decide +kernel
theorem dX5_land_34 : decode cX5_land 34 = .ok (.ireturn, 1) := by decide +kernel
set_option maxRecDepth 20000 in
theorem ggX5_law_X5_refuse : GoodIn wsX5_law wsX5_refuse := goodIn_r _ [6, 7, 8, 9, 10, 11, 12, 13, 14, 15, 16, 17] (by decide +kernel) (by decide +kernel)
set_option maxRecDepth 20000 in
theorem gX5_law_X5_refuse : GoodIn wsX5_law (wsV RX5 49 RX5 yX5_refuse wsX5_refuse) := goodIn_app (goodIn_of _ (by decide +kernel)) ggX5_law_X5_refuse
theorem dX5_law_0 : decode cX5_law 0 = .ok (.iload_n 1, 1) := by decide +kernel
theorem dX5_law_1 : decode cX5_law 1 = .ok (.ifCond .lt 9, 3) := by decide +kernel
theorem dX5_law_4 : decode cX5_law 4 = .ok (.iload_n 1, 1) := by decide +kernel
theorem dX5_law_5 : decode cX5_law 5 = .ok (.bipush 6, 2) := by decide +kernel
theorem dX5_law_7 : decode cX5_law 7 = .ok (.if_icmp .lt 10, 3) := by decide +kernel
theorem dX5_law_10 : decode cX5_law 10 = .ok (.aload_n 0, 1) := by decide +kernel
theorem dX5_law_11 : decode cX5_law 11 = .ok (.bipush (-2), 2) := by decide +kernel
theorem dX5_law_13 : decode cX5_law 13 = .ok (.invokevirtual 49, 3) := by decide +kernel
theorem dX5_law_16 : decode cX5_law 16 = .ok (.ireturn, 1) := by decide +kernel
theorem dX5_law_17 : decode cX5_law 17 = .ok (.iload_n 2, 1) := by decide +kernel
theorem dX5_law_18 : decode cX5_law 18 = .ok (.iconst 1, 1) := by decide +kernel
theorem dX5_law_19 : decode cX5_law 19 = .ok (.if_icmp .ge 10, 3) := by decide +kernel
theorem dX5_law_22 : decode cX5_law 22 = .ok (.aload_n 0, 1) := by decide +kernel
theorem dX5_law_23 : decode cX5_law 23 = .ok (.bipush (-4), 2) := by decide +kernel
theorem dX5_law_25 : decode cX5_law 25 = .ok (.invokevirtual 49, 3) := by decide +kernel
theorem dX5_law_28 : decode cX5_law 28 = .ok (.ireturn, 1) := by decide +kernel
theorem dX5_law_29 : decode cX5_law 29 = .ok (.iload_n 2, 1) := by decide +kernel
theorem dX5_law_30 : decode cX5_law 30 = .ok (.bipush 9, 2) := by decide +kernel
theorem dX5_law_32 : decode cX5_law 32 = .ok (.if_icmp .le 10, 3) := by decide +kernel
theorem dX5_law_35 : decode cX5_law 35 = .ok (.aload_n 0, 1) := by decide +kernel
theorem dX5_law_36 : decode cX5_law 36 = .ok (.bipush (-6), 2) := by decide +kernel
theorem dX5_law_38 : decode cX5_law 38 = .ok (.invokevirtual 49, 3) := by decide +kernel
theorem dX5_law_41 : decode cX5_law 41 = .ok (.ireturn, 1) := by decide +kernel
theorem dX5_law_42 : decode cX5_law 42 = .ok (.bipush 10, 2) := by decide +kernel
theorem dX5_law_44 : decode cX5_law 44 = .ok (.aload_n 0, 1) := by decide +kernel
theorem dX5_law_45 : decode cX5_law 45 = .ok (.getfield 10, 3) := by decide +kernel
theorem dX5_law_48 : decode cX5_law 48 = .ok (.getfield 68, 3) := by decide +kernel
theorem dX5_law_51 : decode cX5_law 51 = .ok (.imul, 1) := by decide +kernel
theorem dX5_law_52 : decode cX5_law 52 = .ok (.aload_n 0, 1) := by decide +kernel
theorem dX5_law_53 : decode cX5_law 53 = .ok (.getfield 10, 3) := by decide +kernel
theorem dX5_law_56 : decode cX5_law 56 = .ok (.getfield 71, 3) := by decide +kernel
theorem dX5_law_59 : decode cX5_law 59 = .ok (.iadd, 1) := by decide +kernel
theorem dX5_law_60 : decode cX5_law 60 = .ok (.istore_n 3, 1) := by decide +kernel
theorem dX5_law_61 : decode cX5_law 61 = .ok (.aload_n 0, 1) := by decide +kernel
theorem dX5_law_62 : decode cX5_law 62 = .ok (.getfield 10, 3) := by decide +kernel
theorem dX5_law_65 : decode cX5_law 65 = .ok (.iload_n 1, 1) := by decide +kernel
theorem dX5_law_66 : decode cX5_law 66 = .ok (.putfield 68, 3) := by decide +kernel
theorem dX5_law_69 : decode cX5_law 69 = .ok (.aload_n 0, 1) := by decide +kernel
theorem dX5_law_70 : decode cX5_law 70 = .ok (.getfield 10, 3) := by decide +kernel
theorem dX5_law_73 : decode cX5_law 73 = .ok (.iload_n 2, 1) := by decide +kernel
theorem dX5_law_74 : decode cX5_law 74 = .ok (.putfield 71, 3) := by decide +kernel
theorem dX5_law_77 : decode cX5_law 77 = .ok (.iload_n 3, 1) := by decide +kernel
theorem dX5_law_78 : decode cX5_law 78 = .ok (.ireturn, 1) := by decide +kernel
set_option maxRecDepth 20000 in
theorem ggX5_set_X5_refuse : GoodIn wsX5_set wsX5_refuse := goodIn_r _ [6, 7, 28, 29, 30, 31, 32, 33, 34, 35, 36, 37] (by decide +kernel) (by decide +kernel)
set_option maxRecDepth 20000 in
theorem gX5_set_X5_refuse : GoodIn wsX5_set (wsV RX5 49 RX5 yX5_refuse wsX5_refuse) := goodIn_app (goodIn_of _ (by decide +kernel)) ggX5_set_X5_refuse
set_option maxRecDepth 20000 in
theorem ggX5_set_X3_least : GoodIn wsX5_set wsX3_least := goodIn_r _ [11] (by decide +kernel) (by decide +kernel)
set_option maxRecDepth 20000 in
theorem gX5_set_X3_least : GoodIn wsX5_set (va_wsS RX5 74 yX3_least wsX3_least) := goodIn_app (goodIn_of _ (by decide +kernel)) ggX5_set_X3_least
set_option maxRecDepth 20000 in
theorem ggX5_set_X3_greatest : GoodIn wsX5_set wsX3_greatest := goodIn_r _ [14] (by decide +kernel) (by decide +kernel)
set_option maxRecDepth 20000 in
theorem gX5_set_X3_greatest : GoodIn wsX5_set (va_wsS RX5 77 yX3_greatest wsX3_greatest) := goodIn_app (goodIn_of _ (by decide +kernel)) ggX5_set_X3_greatest
set_option maxRecDepth 20000 in
theorem ggX5_set_X3_number : GoodIn wsX5_set wsX3_number := goodIn_r _ [18, 19, 20, 21, 38, 39, 40, 41, 42, 43, 44, 45] (by decide +kernel) (by decide +kernel)
set_option maxRecDepth 20000 in
theorem gX5_set_X3_number : GoodIn wsX5_set (wsV RX5 80 RX3 yX3_number wsX3_number) := goodIn_app (goodIn_of _ (by decide +kernel)) ggX5_set_X3_number
set_option maxRecDepth 20000 in
theorem ggX5_set_X3_tellNumber : GoodIn wsX5_set wsX3_tellNumber := goodIn_r _ [25, 19, 20, 21, 26, 9, 10, 11, 27, 13, 14, 38, 39, 40, 41, 42, 43, 44, 45] (by decide +kernel) (by decide +kernel)
set_option maxRecDepth 20000 in
theorem gX5_set_X3_tellNumber : GoodIn wsX5_set (wsV RX5 83 RX3 yX3_tellNumber wsX3_tellNumber) := goodIn_app (goodIn_of _ (by decide +kernel)) ggX5_set_X3_tellNumber
theorem dX5_set_0 : decode cX5_set 0 = .ok (.iload_n 1, 1) := by decide +kernel
theorem dX5_set_1 : decode cX5_set 1 = .ok (.ifCond .lt 8, 3) := by decide +kernel
theorem dX5_set_4 : decode cX5_set 4 = .ok (.iload_n 1, 1) := by decide +kernel
theorem dX5_set_5 : decode cX5_set 5 = .ok (.iconst 2, 1) := by decide +kernel
theorem dX5_set_6 : decode cX5_set 6 = .ok (.if_icmp .le 10, 3) := by decide +kernel
theorem dX5_set_9 : decode cX5_set 9 = .ok (.aload_n 0, 1) := by decide +kernel
theorem dX5_set_10 : decode cX5_set 10 = .ok (.bipush (-2), 2) := by decide +kernel
theorem dX5_set_12 : decode cX5_set 12 = .ok (.invokevirtual 49, 3) := by decide +kernel
theorem dX5_set_15 : decode cX5_set 15 = .ok (.ireturn, 1) := by decide +kernel
theorem dX5_set_16 : decode cX5_set 16 = .ok (.iload_n 2, 1) := by decide +kernel
theorem dX5_set_17 : decode cX5_set 17 = .ok (.iload_n 1, 1) := by decide +kernel
theorem dX5_set_18 : decode cX5_set 18 = .ok (.invokestatic 74, 3) := by decide +kernel
theorem dX5_set_21 : decode cX5_set 21 = .ok (.if_icmp .ge 10, 3) := by decide +kernel
theorem dX5_set_24 : decode cX5_set 24 = .ok (.aload_n 0, 1) := by decide +kernel
theorem dX5_set_25 : decode cX5_set 25 = .ok (.bipush (-4), 2) := by decide +kernel
theorem dX5_set_27 : decode cX5_set 27 = .ok (.invokevirtual 49, 3) := by decide +kernel
theorem dX5_set_30 : decode cX5_set 30 = .ok (.ireturn, 1) := by decide +kernel
theorem dX5_set_31 : decode cX5_set 31 = .ok (.iload_n 2, 1) := by decide +kernel
theorem dX5_set_32 : decode cX5_set 32 = .ok (.iload_n 1, 1) := by decide +kernel
theorem dX5_set_33 : decode cX5_set 33 = .ok (.invokestatic 77, 3) := by decide +kernel
theorem dX5_set_36 : decode cX5_set 36 = .ok (.if_icmp .le 10, 3) := by decide +kernel
theorem dX5_set_39 : decode cX5_set 39 = .ok (.aload_n 0, 1) := by decide +kernel
theorem dX5_set_40 : decode cX5_set 40 = .ok (.bipush (-6), 2) := by decide +kernel
theorem dX5_set_42 : decode cX5_set 42 = .ok (.invokevirtual 49, 3) := by decide +kernel
theorem dX5_set_45 : decode cX5_set 45 = .ok (.ireturn, 1) := by decide +kernel
theorem dX5_set_46 : decode cX5_set 46 = .ok (.aload_n 0, 1) := by decide +kernel
theorem dX5_set_47 : decode cX5_set 47 = .ok (.getfield 10, 3) := by decide +kernel
theorem dX5_set_50 : decode cX5_set 50 = .ok (.iload_n 1, 1) := by decide +kernel
theorem dX5_set_51 : decode cX5_set 51 = .ok (.invokevirtual 80, 3) := by decide +kernel
theorem dX5_set_54 : decode cX5_set 54 = .ok (.istore_n 3, 1) := by decide +kernel
theorem dX5_set_55 : decode cX5_set 55 = .ok (.aload_n 0, 1) := by decide +kernel
theorem dX5_set_56 : decode cX5_set 56 = .ok (.getfield 10, 3) := by decide +kernel
theorem dX5_set_59 : decode cX5_set 59 = .ok (.iload_n 1, 1) := by decide +kernel
theorem dX5_set_60 : decode cX5_set 60 = .ok (.iload_n 2, 1) := by decide +kernel
theorem dX5_set_61 : decode cX5_set 61 = .ok (.invokevirtual 83, 3) := by decide +kernel
theorem dX5_set_64 : decode cX5_set 64 = .ok (.pop, 1) := by decide +kernel
theorem dX5_set_65 : decode cX5_set 65 = .ok (.iload_n 3, 1) := by decide +kernel
theorem dX5_set_66 : decode cX5_set 66 = .ok (.ireturn, 1) := by decide +kernel
set_option maxRecDepth 20000 in
theorem ggX5_stops_X5_refuse : GoodIn wsX5_stops wsX5_refuse := goodIn_r _ [6, 7, 11, 12, 13, 14, 15, 16, 17, 18, 19, 20] (by decide +kernel) (by decide +kernel)
set_option maxRecDepth 20000 in
theorem gX5_stops_X5_refuse : GoodIn wsX5_stops (wsV RX5 49 RX5 yX5_refuse wsX5_refuse) := goodIn_app (goodIn_of _ (by decide +kernel)) ggX5_stops_X5_refuse
set_option maxRecDepth 20000 in
theorem ggX5_stops_X5_lawStops : GoodIn wsX5_stops wsX5_lawStops := goodIn_r _ [10] (by decide +kernel) (by decide +kernel)
set_option maxRecDepth 20000 in
theorem gX5_stops_X5_lawStops : GoodIn wsX5_stops (va_wsS RX5 87 yX5_lawStops wsX5_lawStops) := goodIn_app (goodIn_of _ (by decide +kernel)) ggX5_stops_X5_lawStops
theorem dX5_stops_0 : decode cX5_stops 0 = .ok (.iload_n 1, 1) := by decide +kernel
theorem dX5_stops_1 : decode cX5_stops 1 = .ok (.ifCond .lt 11, 3) := by decide +kernel
theorem dX5_stops_4 : decode cX5_stops 4 = .ok (.iload_n 2, 1) := by decide +kernel
theorem dX5_stops_5 : decode cX5_stops 5 = .ok (.ifCond .lt 7, 3) := by decide +kernel
theorem dX5_stops_8 : decode cX5_stops 8 = .ok (.iload_n 3, 1) := by decide +kernel
theorem dX5_stops_9 : decode cX5_stops 9 = .ok (.ifCond .ge 10, 3) := by decide +kernel
theorem dX5_stops_12 : decode cX5_stops 12 = .ok (.aload_n 0, 1) := by decide +kernel
theorem dX5_stops_13 : decode cX5_stops 13 = .ok (.bipush (-4), 2) := by decide +kernel
theorem dX5_stops_15 : decode cX5_stops 15 = .ok (.invokevirtual 49, 3) := by decide +kernel
theorem dX5_stops_18 : decode cX5_stops 18 = .ok (.ireturn, 1) := by decide +kernel
theorem dX5_stops_19 : decode cX5_stops 19 = .ok (.iload_n 1, 1) := by decide +kernel
theorem dX5_stops_20 : decode cX5_stops 20 = .ok (.bipush 10, 2) := by decide +kernel
theorem dX5_stops_22 : decode cX5_stops 22 = .ok (.if_icmp .gt 15, 3) := by decide +kernel
theorem dX5_stops_25 : decode cX5_stops 25 = .ok (.iload_n 2, 1) := by decide +kernel
theorem dX5_stops_26 : decode cX5_stops 26 = .ok (.bipush 10, 2) := by decide +kernel
theorem dX5_stops_28 : decode cX5_stops 28 = .ok (.if_icmp .gt 9, 3) := by decide +kernel
theorem dX5_stops_31 : decode cX5_stops 31 = .ok (.iload_n 3, 1) := by decide +kernel
theorem dX5_stops_32 : decode cX5_stops 32 = .ok (.bipush 10, 2) := by decide +kernel
theorem dX5_stops_34 : decode cX5_stops 34 = .ok (.if_icmp .le 10, 3) := by decide +kernel
theorem dX5_stops_37 : decode cX5_stops 37 = .ok (.aload_n 0, 1) := by decide +kernel
theorem dX5_stops_38 : decode cX5_stops 38 = .ok (.bipush (-6), 2) := by decide +kernel
theorem dX5_stops_40 : decode cX5_stops 40 = .ok (.invokevirtual 49, 3) := by decide +kernel
theorem dX5_stops_43 : decode cX5_stops 43 = .ok (.ireturn, 1) := by decide +kernel
theorem dX5_stops_44 : decode cX5_stops 44 = .ok (.iload_n 3, 1) := by decide +kernel
theorem dX5_stops_45 : decode cX5_stops 45 = .ok (.iload_n 1, 1) := by decide +kernel
theorem dX5_stops_46 : decode cX5_stops 46 = .ok (.if_icmp .gt 19, 3) := by decide +kernel
theorem dX5_stops_49 : decode cX5_stops 49 = .ok (.iload_n 1, 1) := by decide +kernel
theorem dX5_stops_50 : decode cX5_stops 50 = .ok (.ifCond .ne 7, 3) := by decide +kernel
theorem dX5_stops_53 : decode cX5_stops 53 = .ok (.iload_n 2, 1) := by decide +kernel
theorem dX5_stops_54 : decode cX5_stops 54 = .ok (.ifCond .eq 11, 3) := by decide +kernel
theorem dX5_stops_57 : decode cX5_stops 57 = .ok (.iload_n 3, 1) := by decide +kernel
theorem dX5_stops_58 : decode cX5_stops 58 = .ok (.ifCond .ne 14, 3) := by decide +kernel
theorem dX5_stops_61 : decode cX5_stops 61 = .ok (.iload_n 2, 1) := by decide +kernel
theorem dX5_stops_62 : decode cX5_stops 62 = .ok (.ifCond .ne 10, 3) := by decide +kernel
theorem dX5_stops_65 : decode cX5_stops 65 = .ok (.aload_n 0, 1) := by decide +kernel
theorem dX5_stops_66 : decode cX5_stops 66 = .ok (.bipush (-3), 2) := by decide +kernel
theorem dX5_stops_68 : decode cX5_stops 68 = .ok (.invokevirtual 49, 3) := by decide +kernel
theorem dX5_stops_71 : decode cX5_stops 71 = .ok (.ireturn, 1) := by decide +kernel
theorem dX5_stops_72 : decode cX5_stops 72 = .ok (.aload_n 0, 1) := by decide +kernel
theorem dX5_stops_73 : decode cX5_stops 73 = .ok (.getfield 10, 3) := by decide +kernel
theorem dX5_stops_76 : decode cX5_stops 76 = .ok (.getfield 68, 3) := by decide +kernel
theorem dX5_stops_79 : decode cX5_stops 79 = .ok (.aload_n 0, 1) := by decide +kernel
theorem dX5_stops_80 : decode cX5_stops 80 = .ok (.getfield 10, 3) := by decide +kernel
theorem dX5_stops_83 : decode cX5_stops 83 = .ok (.getfield 71, 3) := by decide +kernel
theorem dX5_stops_86 : decode cX5_stops 86 = .ok (.iload_n 1, 1) := by decide +kernel
theorem dX5_stops_87 : decode cX5_stops 87 = .ok (.iload_n 2, 1) := by decide +kernel
theorem dX5_stops_88 : decode cX5_stops 88 = .ok (.iload_n 3, 1) := by decide +kernel
theorem dX5_stops_89 : decode cX5_stops 89 = .ok (.invokestatic 87, 3) := by decide +kernel
theorem dX5_stops_92 : decode cX5_stops 92 = .ok (.ifCond .eq 7, 3) := by decide +kernel
theorem dX5_stops_95 : decode cX5_stops 95 = .ok (.iconst 1, 1) := by decide +kernel
theorem dX5_stops_96 : decode cX5_stops 96 = .ok (.goto 4, 3) := by decide +kernel
theorem dX5_stops_99 : decode cX5_stops 99 = .ok (.iconst 0, 1) := by decide +kernel
theorem dX5_stops_100 : decode cX5_stops 100 = .ok (.ireturn, 1) := by decide +kernel
set_option maxRecDepth 20000 in
theorem ggX5_mean_X5_isNoSort : GoodIn wsX5_mean wsX5_isNoSort := goodIn_r _ [5] (by decide +kernel) (by decide +kernel)
set_option maxRecDepth 20000 in
theorem gX5_mean_X5_isNoSort : GoodIn wsX5_mean (va_wsS RX5 91 yX5_isNoSort wsX5_isNoSort) := goodIn_app (goodIn_of _ (by decide +kernel)) ggX5_mean_X5_isNoSort
set_option maxRecDepth 20000 in
theorem ggX5_mean_X5_refuseLong : GoodIn wsX5_mean wsX5_refuseLong := goodIn_r _ [9, 10, 11, 12, 13, 4, 14, 15, 105, 106, 107, 108, 109, 110, 111, 112, 113, 114] (by decide +kernel) (by decide +kernel)
set_option maxRecDepth 20000 in
theorem gX5_mean_X5_refuseLong : GoodIn wsX5_mean (wsV RX5 95 RX5 yX5_refuseLong wsX5_refuseLong) := goodIn_app (goodIn_of _ (by decide +kernel)) ggX5_mean_X5_refuseLong
set_option maxRecDepth 20000 in
theorem ggX5_mean_X5_tallyNow : GoodIn wsX5_mean wsX5_tallyNow := goodIn_r _ [19, 20, 21, 22, 23, 4, 24, 25, 26, 27, 28, 29, 30, 31, 32, 33, 34, 35, 36, 37, 38, 39, 40, 41, 42, 43, 44, 45, 46, 47, 48, 49, 50, 51, 52, 53, 54, 55, 56, 57, 58, 59, 60, 61, 62, 63, 64, 65, 66, 67, 68, 69, 70, 71, 72, 73, 74, 75, 76, 77, 78, 79, 80, 81, 82, 83, 84, 85, 86, 87, 105, 106, 107, 108, 109, 110, 111, 112, 113, 114, 115, 116, 117, 118, 119, 120, 121, 122, 123, 124, 125, 126, 127, 128, 129, 130, 131, 132] (by decide +kernel) (by decide +kernel)
set_option maxRecDepth 20000 in
theorem gX5_mean_X5_tallyNow : GoodIn wsX5_mean (wsV RX5 99 RX5 yX5_tallyNow wsX5_tallyNow) := goodIn_app (goodIn_of _ (by decide +kernel)) ggX5_mean_X5_tallyNow
set_option maxRecDepth 20000 in
theorem ggX5_mean_X1_sum : GoodIn wsX5_mean wsX1_sum := goodIn_r _ [91, 34, 92, 93, 94, 30, 95, 37, 68, 69, 70, 42, 71, 44, 61, 62, 63, 96, 97, 98, 123, 124, 125, 126, 127, 128, 129, 130] (by decide +kernel) (by decide +kernel)
set_option maxRecDepth 20000 in
theorem gX5_mean_X1_sum : GoodIn wsX5_mean (wsV RX5 103 RX1 yX1_sum wsX1_sum) := goodIn_app (goodIn_of _ (by decide +kernel)) ggX5_mean_X1_sum
set_option maxRecDepth 20000 in
theorem ggX5_mean_X5_fraction : GoodIn wsX5_mean wsX5_fraction := goodIn_r _ [101, 102, 103, 4, 104] (by decide +kernel) (by decide +kernel)
set_option maxRecDepth 20000 in
theorem gX5_mean_X5_fraction : GoodIn wsX5_mean (va_wsS RX5 109 yX5_fraction wsX5_fraction) := goodIn_app (goodIn_of _ (by decide +kernel)) ggX5_mean_X5_fraction
theorem dX5_mean_0 : decode cX5_mean 0 = .ok (.iload_n 1, 1) := by decide +kernel
theorem dX5_mean_1 : decode cX5_mean 1 = .ok (.ifCond .lt 15, 3) := by decide +kernel
theorem dX5_mean_4 : decode cX5_mean 4 = .ok (.iload_n 1, 1) := by decide +kernel
theorem dX5_mean_5 : decode cX5_mean 5 = .ok (.iconst 2, 1) := by decide +kernel
theorem dX5_mean_6 : decode cX5_mean 6 = .ok (.if_icmp .gt 10, 3) := by decide +kernel
theorem dX5_mean_9 : decode cX5_mean 9 = .ok (.iload_n 2, 1) := by decide +kernel
theorem dX5_mean_10 : decode cX5_mean 10 = .ok (.invokestatic 91, 3) := by decide +kernel
theorem dX5_mean_13 : decode cX5_mean 13 = .ok (.ifCond .eq 10, 3) := by decide +kernel
theorem dX5_mean_16 : decode cX5_mean 16 = .ok (.aload_n 0, 1) := by decide +kernel
theorem dX5_mean_17 : decode cX5_mean 17 = .ok (.bipush (-2), 2) := by decide +kernel
theorem dX5_mean_19 : decode cX5_mean 19 = .ok (.invokevirtual 95, 3) := by decide +kernel
theorem dX5_mean_22 : decode cX5_mean 22 = .ok (.lreturn, 1) := by decide +kernel
theorem dX5_mean_23 : decode cX5_mean 23 = .ok (.aload_n 0, 1) := by decide +kernel
theorem dX5_mean_24 : decode cX5_mean 24 = .ok (.invokevirtual 99, 3) := by decide +kernel
theorem dX5_mean_27 : decode cX5_mean 27 = .ok (.iload_n 1, 1) := by decide +kernel
theorem dX5_mean_28 : decode cX5_mean 28 = .ok (.iconst 0, 1) := by decide +kernel
theorem dX5_mean_29 : decode cX5_mean 29 = .ok (.invokevirtual 103, 3) := by decide +kernel
theorem dX5_mean_32 : decode cX5_mean 32 = .ok (.ldc2_w 107, 3) := by decide +kernel
theorem dX5_mean_35 : decode cX5_mean 35 = .ok (.iload_n 2, 1) := by decide +kernel
theorem dX5_mean_36 : decode cX5_mean 36 = .ok (.invokestatic 109, 3) := by decide +kernel
theorem dX5_mean_39 : decode cX5_mean 39 = .ok (.lreturn, 1) := by decide +kernel
set_option maxRecDepth 20000 in
theorem ggX5_share_X5_isNoSort : GoodIn wsX5_share wsX5_isNoSort := goodIn_r _ [5] (by decide +kernel) (by decide +kernel)
set_option maxRecDepth 20000 in
theorem gX5_share_X5_isNoSort : GoodIn wsX5_share (va_wsS RX5 91 yX5_isNoSort wsX5_isNoSort) := goodIn_app (goodIn_of _ (by decide +kernel)) ggX5_share_X5_isNoSort
set_option maxRecDepth 20000 in
theorem ggX5_share_X5_refuseLong : GoodIn wsX5_share wsX5_refuseLong := goodIn_r _ [9, 10, 11, 12, 13, 4, 14, 15, 105, 106, 107, 108, 109, 110, 111, 112, 113, 114] (by decide +kernel) (by decide +kernel)
set_option maxRecDepth 20000 in
theorem gX5_share_X5_refuseLong : GoodIn wsX5_share (wsV RX5 95 RX5 yX5_refuseLong wsX5_refuseLong) := goodIn_app (goodIn_of _ (by decide +kernel)) ggX5_share_X5_refuseLong
set_option maxRecDepth 20000 in
theorem ggX5_share_X5_tallyNow : GoodIn wsX5_share wsX5_tallyNow := goodIn_r _ [19, 20, 21, 22, 23, 4, 24, 25, 26, 27, 28, 29, 30, 31, 32, 33, 34, 35, 36, 37, 38, 39, 40, 41, 42, 43, 44, 45, 46, 47, 48, 49, 50, 51, 52, 53, 54, 55, 56, 57, 58, 59, 60, 61, 62, 63, 64, 65, 66, 67, 68, 69, 70, 71, 72, 73, 74, 75, 76, 77, 78, 79, 80, 81, 82, 83, 84, 85, 86, 87, 105, 106, 107, 108, 109, 110, 111, 112, 113, 114, 115, 116, 117, 118, 119, 120, 121, 122, 123, 124, 125, 126, 127, 128, 129, 130, 131, 132] (by decide +kernel) (by decide +kernel)
set_option maxRecDepth 20000 in
theorem gX5_share_X5_tallyNow : GoodIn wsX5_share (wsV RX5 99 RX5 yX5_tallyNow wsX5_tallyNow) := goodIn_app (goodIn_of _ (by decide +kernel)) ggX5_share_X5_tallyNow
set_option maxRecDepth 20000 in
theorem ggX5_share_X1_sum : GoodIn wsX5_share wsX1_sum := goodIn_r _ [91, 34, 92, 93, 94, 30, 95, 37, 68, 69, 70, 42, 71, 44, 61, 62, 63, 96, 97, 98, 123, 124, 125, 126, 127, 128, 129, 130] (by decide +kernel) (by decide +kernel)
set_option maxRecDepth 20000 in
theorem gX5_share_X1_sum : GoodIn wsX5_share (wsV RX5 103 RX1 yX1_sum wsX1_sum) := goodIn_app (goodIn_of _ (by decide +kernel)) ggX5_share_X1_sum
set_option maxRecDepth 20000 in
theorem ggX5_share_X5_fraction : GoodIn wsX5_share wsX5_fraction := goodIn_r _ [101, 102, 103, 4, 104] (by decide +kernel) (by decide +kernel)
set_option maxRecDepth 20000 in
theorem gX5_share_X5_fraction : GoodIn wsX5_share (va_wsS RX5 109 yX5_fraction wsX5_fraction) := goodIn_app (goodIn_of _ (by decide +kernel)) ggX5_share_X5_fraction
theorem dX5_share_0 : decode cX5_share 0 = .ok (.iload_n 1, 1) := by decide +kernel
theorem dX5_share_1 : decode cX5_share 1 = .ok (.invokestatic 91, 3) := by decide +kernel
theorem dX5_share_4 : decode cX5_share 4 = .ok (.ifCond .eq 10, 3) := by decide +kernel
theorem dX5_share_7 : decode cX5_share 7 = .ok (.aload_n 0, 1) := by decide +kernel
theorem dX5_share_8 : decode cX5_share 8 = .ok (.bipush (-2), 2) := by decide +kernel
theorem dX5_share_10 : decode cX5_share 10 = .ok (.invokevirtual 95, 3) := by decide +kernel
theorem dX5_share_13 : decode cX5_share 13 = .ok (.lreturn, 1) := by decide +kernel
theorem dX5_share_14 : decode cX5_share 14 = .ok (.aload_n 0, 1) := by decide +kernel
theorem dX5_share_15 : decode cX5_share 15 = .ok (.invokevirtual 99, 3) := by decide +kernel
theorem dX5_share_18 : decode cX5_share 18 = .ok (.bipush 6, 2) := by decide +kernel
theorem dX5_share_20 : decode cX5_share 20 = .ok (.iconst 0, 1) := by decide +kernel
theorem dX5_share_21 : decode cX5_share 21 = .ok (.invokevirtual 103, 3) := by decide +kernel
theorem dX5_share_24 : decode cX5_share 24 = .ok (.ldc2_w 113, 3) := by decide +kernel
theorem dX5_share_27 : decode cX5_share 27 = .ok (.iload_n 1, 1) := by decide +kernel
theorem dX5_share_28 : decode cX5_share 28 = .ok (.invokestatic 109, 3) := by decide +kernel
theorem dX5_share_31 : decode cX5_share 31 = .ok (.lreturn, 1) := by decide +kernel
set_option maxRecDepth 20000 in
theorem ggX5_all_X5_isNoSort : GoodIn wsX5_all wsX5_isNoSort := goodIn_r _ [4] (by decide +kernel) (by decide +kernel)
set_option maxRecDepth 20000 in
theorem gX5_all_X5_isNoSort : GoodIn wsX5_all (va_wsS RX5 91 yX5_isNoSort wsX5_isNoSort) := goodIn_app (goodIn_of _ (by decide +kernel)) ggX5_all_X5_isNoSort
set_option maxRecDepth 20000 in
theorem ggX5_all_X5_refuseLong : GoodIn wsX5_all wsX5_refuseLong := goodIn_r _ [8, 9, 10, 11, 12, 3, 13, 14, 104, 105, 106, 107, 108, 109, 110, 111, 112, 113] (by decide +kernel) (by decide +kernel)
set_option maxRecDepth 20000 in
theorem gX5_all_X5_refuseLong : GoodIn wsX5_all (wsV RX5 95 RX5 yX5_refuseLong wsX5_refuseLong) := goodIn_app (goodIn_of _ (by decide +kernel)) ggX5_all_X5_refuseLong
set_option maxRecDepth 20000 in
theorem ggX5_all_X5_tallyNow : GoodIn wsX5_all wsX5_tallyNow := goodIn_r _ [18, 19, 20, 21, 22, 3, 23, 24, 25, 26, 27, 28, 29, 30, 31, 32, 33, 34, 35, 36, 37, 38, 39, 40, 41, 42, 43, 44, 45, 46, 47, 48, 49, 50, 51, 52, 53, 54, 55, 56, 57, 58, 59, 60, 61, 62, 63, 64, 65, 66, 67, 68, 69, 70, 71, 72, 73, 74, 75, 76, 77, 78, 79, 80, 81, 82, 83, 84, 85, 86, 104, 105, 106, 107, 108, 109, 110, 111, 112, 113, 114, 115, 116, 117, 118, 119, 120, 121, 122, 123, 124, 125, 126, 127, 128, 129, 130, 131] (by decide +kernel) (by decide +kernel)
set_option maxRecDepth 20000 in
theorem gX5_all_X5_tallyNow : GoodIn wsX5_all (wsV RX5 99 RX5 yX5_tallyNow wsX5_tallyNow) := goodIn_app (goodIn_of _ (by decide +kernel)) ggX5_all_X5_tallyNow
set_option maxRecDepth 20000 in
theorem ggX5_all_X1_sum : GoodIn wsX5_all wsX1_sum := goodIn_r _ [90, 33, 91, 92, 93, 29, 94, 36, 67, 68, 69, 41, 70, 43, 60, 61, 62, 95, 96, 97, 122, 123, 124, 125, 126, 127, 128, 129] (by decide +kernel) (by decide +kernel)
set_option maxRecDepth 20000 in
theorem gX5_all_X1_sum : GoodIn wsX5_all (wsV RX5 103 RX1 yX1_sum wsX1_sum) := goodIn_app (goodIn_of _ (by decide +kernel)) ggX5_all_X1_sum
set_option maxRecDepth 20000 in
theorem ggX5_all_X5_fraction : GoodIn wsX5_all wsX5_fraction := goodIn_r _ [100, 101, 102, 3, 103] (by decide +kernel) (by decide +kernel)
set_option maxRecDepth 20000 in
theorem gX5_all_X5_fraction : GoodIn wsX5_all (va_wsS RX5 109 yX5_fraction wsX5_fraction) := goodIn_app (goodIn_of _ (by decide +kernel)) ggX5_all_X5_fraction
theorem dX5_all_0 : decode cX5_all 0 = .ok (.iload_n 1, 1) := by decide +kernel
theorem dX5_all_1 : decode cX5_all 1 = .ok (.invokestatic 91, 3) := by decide +kernel
theorem dX5_all_4 : decode cX5_all 4 = .ok (.ifCond .eq 10, 3) := by decide +kernel
theorem dX5_all_7 : decode cX5_all 7 = .ok (.aload_n 0, 1) := by decide +kernel
theorem dX5_all_8 : decode cX5_all 8 = .ok (.bipush (-2), 2) := by decide +kernel
theorem dX5_all_10 : decode cX5_all 10 = .ok (.invokevirtual 95, 3) := by decide +kernel
theorem dX5_all_13 : decode cX5_all 13 = .ok (.lreturn, 1) := by decide +kernel
theorem dX5_all_14 : decode cX5_all 14 = .ok (.aload_n 0, 1) := by decide +kernel
theorem dX5_all_15 : decode cX5_all 15 = .ok (.invokevirtual 99, 3) := by decide +kernel
theorem dX5_all_18 : decode cX5_all 18 = .ok (.astore_n 2, 1) := by decide +kernel
theorem dX5_all_19 : decode cX5_all 19 = .ok (.aload_n 2, 1) := by decide +kernel
theorem dX5_all_20 : decode cX5_all 20 = .ok (.iconst 1, 1) := by decide +kernel
theorem dX5_all_21 : decode cX5_all 21 = .ok (.iconst 0, 1) := by decide +kernel
theorem dX5_all_22 : decode cX5_all 22 = .ok (.invokevirtual 103, 3) := by decide +kernel
theorem dX5_all_25 : decode cX5_all 25 = .ok (.aload_n 2, 1) := by decide +kernel
theorem dX5_all_26 : decode cX5_all 26 = .ok (.iconst 0, 1) := by decide +kernel
theorem dX5_all_27 : decode cX5_all 27 = .ok (.iconst 0, 1) := by decide +kernel
theorem dX5_all_28 : decode cX5_all 28 = .ok (.invokevirtual 103, 3) := by decide +kernel
theorem dX5_all_31 : decode cX5_all 31 = .ok (.iload_n 1, 1) := by decide +kernel
theorem dX5_all_32 : decode cX5_all 32 = .ok (.invokestatic 109, 3) := by decide +kernel
theorem dX5_all_35 : decode cX5_all 35 = .ok (.lreturn, 1) := by decide +kernel
set_option maxRecDepth 20000 in
theorem ggX5_more_X5_isNoSort : GoodIn wsX5_more wsX5_isNoSort := goodIn_r _ [5] (by decide +kernel) (by decide +kernel)
set_option maxRecDepth 20000 in
theorem gX5_more_X5_isNoSort : GoodIn wsX5_more (va_wsS RX5 91 yX5_isNoSort wsX5_isNoSort) := goodIn_app (goodIn_of _ (by decide +kernel)) ggX5_more_X5_isNoSort
set_option maxRecDepth 20000 in
theorem ggX5_more_X5_refuseLong : GoodIn wsX5_more wsX5_refuseLong := goodIn_r _ [9, 10, 11, 12, 13, 4, 14, 15, 105, 106, 107, 108, 109, 110, 111, 112, 113, 114] (by decide +kernel) (by decide +kernel)
set_option maxRecDepth 20000 in
theorem gX5_more_X5_refuseLong : GoodIn wsX5_more (wsV RX5 95 RX5 yX5_refuseLong wsX5_refuseLong) := goodIn_app (goodIn_of _ (by decide +kernel)) ggX5_more_X5_refuseLong
set_option maxRecDepth 20000 in
theorem ggX5_more_X5_tallyNow : GoodIn wsX5_more wsX5_tallyNow := goodIn_r _ [19, 20, 21, 22, 23, 4, 24, 25, 26, 27, 28, 29, 30, 31, 32, 33, 34, 35, 36, 37, 38, 39, 40, 41, 42, 43, 44, 45, 46, 47, 48, 49, 50, 51, 52, 53, 54, 55, 56, 57, 58, 59, 60, 61, 62, 63, 64, 65, 66, 67, 68, 69, 70, 71, 72, 73, 74, 75, 76, 77, 78, 79, 80, 81, 82, 83, 84, 85, 86, 87, 105, 106, 107, 108, 109, 110, 111, 112, 113, 114, 115, 116, 117, 118, 119, 120, 121, 122, 123, 124, 125, 126, 127, 128, 129, 130, 131, 132] (by decide +kernel) (by decide +kernel)
set_option maxRecDepth 20000 in
theorem gX5_more_X5_tallyNow : GoodIn wsX5_more (wsV RX5 99 RX5 yX5_tallyNow wsX5_tallyNow) := goodIn_app (goodIn_of _ (by decide +kernel)) ggX5_more_X5_tallyNow
set_option maxRecDepth 20000 in
theorem ggX5_more_X1_sum : GoodIn wsX5_more wsX1_sum := goodIn_r _ [91, 34, 92, 93, 94, 30, 95, 37, 68, 69, 70, 42, 71, 44, 61, 62, 63, 96, 97, 98, 123, 124, 125, 126, 127, 128, 129, 130] (by decide +kernel) (by decide +kernel)
set_option maxRecDepth 20000 in
theorem gX5_more_X1_sum : GoodIn wsX5_more (wsV RX5 103 RX1 yX1_sum wsX1_sum) := goodIn_app (goodIn_of _ (by decide +kernel)) ggX5_more_X1_sum
set_option maxRecDepth 20000 in
theorem ggX5_more_X5_fraction : GoodIn wsX5_more wsX5_fraction := goodIn_r _ [101, 102, 103, 4, 104] (by decide +kernel) (by decide +kernel)
set_option maxRecDepth 20000 in
theorem gX5_more_X5_fraction : GoodIn wsX5_more (va_wsS RX5 109 yX5_fraction wsX5_fraction) := goodIn_app (goodIn_of _ (by decide +kernel)) ggX5_more_X5_fraction
theorem dX5_more_0 : decode cX5_more 0 = .ok (.iload_n 1, 1) := by decide +kernel
theorem dX5_more_1 : decode cX5_more 1 = .ok (.ifCond .lt 15, 3) := by decide +kernel
theorem dX5_more_4 : decode cX5_more 4 = .ok (.iload_n 1, 1) := by decide +kernel
theorem dX5_more_5 : decode cX5_more 5 = .ok (.iconst 2, 1) := by decide +kernel
theorem dX5_more_6 : decode cX5_more 6 = .ok (.if_icmp .gt 10, 3) := by decide +kernel
theorem dX5_more_9 : decode cX5_more 9 = .ok (.iload_n 2, 1) := by decide +kernel
theorem dX5_more_10 : decode cX5_more 10 = .ok (.invokestatic 91, 3) := by decide +kernel
theorem dX5_more_13 : decode cX5_more 13 = .ok (.ifCond .eq 10, 3) := by decide +kernel
theorem dX5_more_16 : decode cX5_more 16 = .ok (.aload_n 0, 1) := by decide +kernel
theorem dX5_more_17 : decode cX5_more 17 = .ok (.bipush (-2), 2) := by decide +kernel
theorem dX5_more_19 : decode cX5_more 19 = .ok (.invokevirtual 95, 3) := by decide +kernel
theorem dX5_more_22 : decode cX5_more 22 = .ok (.lreturn, 1) := by decide +kernel
theorem dX5_more_23 : decode cX5_more 23 = .ok (.aload_n 0, 1) := by decide +kernel
theorem dX5_more_24 : decode cX5_more 24 = .ok (.invokevirtual 99, 3) := by decide +kernel
theorem dX5_more_27 : decode cX5_more 27 = .ok (.iconst 3, 1) := by decide +kernel
theorem dX5_more_28 : decode cX5_more 28 = .ok (.iload_n 1, 1) := by decide +kernel
theorem dX5_more_29 : decode cX5_more 29 = .ok (.iadd, 1) := by decide +kernel
theorem dX5_more_30 : decode cX5_more 30 = .ok (.iconst 0, 1) := by decide +kernel
theorem dX5_more_31 : decode cX5_more 31 = .ok (.invokevirtual 103, 3) := by decide +kernel
theorem dX5_more_34 : decode cX5_more 34 = .ok (.ldc2_w 107, 3) := by decide +kernel
theorem dX5_more_37 : decode cX5_more 37 = .ok (.iload_n 2, 1) := by decide +kernel
theorem dX5_more_38 : decode cX5_more 38 = .ok (.invokestatic 109, 3) := by decide +kernel
theorem dX5_more_41 : decode cX5_more 41 = .ok (.lreturn, 1) := by decide +kernel
set_option maxRecDepth 20000 in
theorem ggX5_size_X5_refuseLong : GoodIn wsX5_size wsX5_refuseLong := goodIn_r _ [6, 7, 8, 9, 10, 5, 11, 12, 105, 106, 107, 108, 109, 110, 111, 112, 113, 114] (by decide +kernel) (by decide +kernel)
set_option maxRecDepth 20000 in
theorem gX5_size_X5_refuseLong : GoodIn wsX5_size (wsV RX5 95 RX5 yX5_refuseLong wsX5_refuseLong) := goodIn_app (goodIn_of _ (by decide +kernel)) ggX5_size_X5_refuseLong
set_option maxRecDepth 20000 in
theorem ggX5_size_X5_isNoSort : GoodIn wsX5_size wsX5_isNoSort := goodIn_r _ [15] (by decide +kernel) (by decide +kernel)
set_option maxRecDepth 20000 in
theorem gX5_size_X5_isNoSort : GoodIn wsX5_size (va_wsS RX5 91 yX5_isNoSort wsX5_isNoSort) := goodIn_app (goodIn_of _ (by decide +kernel)) ggX5_size_X5_isNoSort
set_option maxRecDepth 20000 in
theorem ggX5_size_X5_tallyNow : GoodIn wsX5_size wsX5_tallyNow := goodIn_r _ [19, 20, 21, 22, 23, 5, 24, 25, 26, 27, 28, 29, 30, 31, 32, 33, 34, 35, 36, 37, 38, 39, 40, 41, 42, 43, 44, 45, 46, 47, 48, 49, 50, 51, 52, 53, 54, 55, 56, 57, 58, 59, 60, 61, 62, 63, 64, 65, 66, 67, 68, 69, 70, 71, 72, 73, 74, 75, 76, 77, 78, 79, 80, 81, 82, 83, 84, 85, 86, 87, 105, 106, 107, 108, 109, 110, 111, 112, 113, 114, 115, 116, 117, 118, 119, 120, 121, 122, 123, 124, 125, 126, 127, 128, 129, 130, 131, 132] (by decide +kernel) (by decide +kernel)
set_option maxRecDepth 20000 in
theorem gX5_size_X5_tallyNow : GoodIn wsX5_size (wsV RX5 99 RX5 yX5_tallyNow wsX5_tallyNow) := goodIn_app (goodIn_of _ (by decide +kernel)) ggX5_size_X5_tallyNow
set_option maxRecDepth 20000 in
theorem ggX5_size_X1_sum : GoodIn wsX5_size wsX1_sum := goodIn_r _ [91, 34, 92, 93, 94, 30, 95, 37, 68, 69, 70, 42, 71, 44, 61, 62, 63, 96, 97, 98, 123, 124, 125, 126, 127, 128, 129, 130] (by decide +kernel) (by decide +kernel)
set_option maxRecDepth 20000 in
theorem gX5_size_X1_sum : GoodIn wsX5_size (wsV RX5 103 RX1 yX1_sum wsX1_sum) := goodIn_app (goodIn_of _ (by decide +kernel)) ggX5_size_X1_sum
set_option maxRecDepth 20000 in
theorem ggX5_size_X5_fraction : GoodIn wsX5_size wsX5_fraction := goodIn_r _ [101, 102, 103, 5, 104] (by decide +kernel) (by decide +kernel)
set_option maxRecDepth 20000 in
theorem gX5_size_X5_fraction : GoodIn wsX5_size (va_wsS RX5 109 yX5_fraction wsX5_fraction) := goodIn_app (goodIn_of _ (by decide +kernel)) ggX5_size_X5_fraction
theorem dX5_size_0 : decode cX5_size 0 = .ok (.iload_n 1, 1) := by decide +kernel
theorem dX5_size_1 : decode cX5_size 1 = .ok (.iconst 1, 1) := by decide +kernel
theorem dX5_size_2 : decode cX5_size 2 = .ok (.if_icmp .ge 10, 3) := by decide +kernel
theorem dX5_size_5 : decode cX5_size 5 = .ok (.aload_n 0, 1) := by decide +kernel
theorem dX5_size_6 : decode cX5_size 6 = .ok (.bipush (-4), 2) := by decide +kernel
theorem dX5_size_8 : decode cX5_size 8 = .ok (.invokevirtual 95, 3) := by decide +kernel
theorem dX5_size_11 : decode cX5_size 11 = .ok (.lreturn, 1) := by decide +kernel
theorem dX5_size_12 : decode cX5_size 12 = .ok (.iload_n 1, 1) := by decide +kernel
theorem dX5_size_13 : decode cX5_size 13 = .ok (.bipush 10, 2) := by decide +kernel
theorem dX5_size_15 : decode cX5_size 15 = .ok (.if_icmp .le 10, 3) := by decide +kernel
theorem dX5_size_18 : decode cX5_size 18 = .ok (.aload_n 0, 1) := by decide +kernel
theorem dX5_size_19 : decode cX5_size 19 = .ok (.bipush (-6), 2) := by decide +kernel
theorem dX5_size_21 : decode cX5_size 21 = .ok (.invokevirtual 95, 3) := by decide +kernel
theorem dX5_size_24 : decode cX5_size 24 = .ok (.lreturn, 1) := by decide +kernel
theorem dX5_size_25 : decode cX5_size 25 = .ok (.iload_n 2, 1) := by decide +kernel
theorem dX5_size_26 : decode cX5_size 26 = .ok (.invokestatic 91, 3) := by decide +kernel
theorem dX5_size_29 : decode cX5_size 29 = .ok (.ifCond .eq 10, 3) := by decide +kernel
theorem dX5_size_32 : decode cX5_size 32 = .ok (.aload_n 0, 1) := by decide +kernel
theorem dX5_size_33 : decode cX5_size 33 = .ok (.bipush (-2), 2) := by decide +kernel
theorem dX5_size_35 : decode cX5_size 35 = .ok (.invokevirtual 95, 3) := by decide +kernel
theorem dX5_size_38 : decode cX5_size 38 = .ok (.lreturn, 1) := by decide +kernel
theorem dX5_size_39 : decode cX5_size 39 = .ok (.aload_n 0, 1) := by decide +kernel
theorem dX5_size_40 : decode cX5_size 40 = .ok (.invokevirtual 99, 3) := by decide +kernel
theorem dX5_size_43 : decode cX5_size 43 = .ok (.bipush 7, 2) := by decide +kernel
theorem dX5_size_45 : decode cX5_size 45 = .ok (.iload_n 1, 1) := by decide +kernel
theorem dX5_size_46 : decode cX5_size 46 = .ok (.invokevirtual 103, 3) := by decide +kernel
theorem dX5_size_49 : decode cX5_size 49 = .ok (.ldc2_w 107, 3) := by decide +kernel
theorem dX5_size_52 : decode cX5_size 52 = .ok (.iload_n 2, 1) := by decide +kernel
theorem dX5_size_53 : decode cX5_size 53 = .ok (.invokestatic 109, 3) := by decide +kernel
theorem dX5_size_56 : decode cX5_size 56 = .ok (.lreturn, 1) := by decide +kernel
set_option maxRecDepth 20000 in
theorem ggX5_met_X5_isNoSort : GoodIn wsX5_met wsX5_isNoSort := goodIn_r _ [4] (by decide +kernel) (by decide +kernel)
set_option maxRecDepth 20000 in
theorem gX5_met_X5_isNoSort : GoodIn wsX5_met (va_wsS RX5 91 yX5_isNoSort wsX5_isNoSort) := goodIn_app (goodIn_of _ (by decide +kernel)) ggX5_met_X5_isNoSort
set_option maxRecDepth 20000 in
theorem ggX5_met_X5_refuseLong : GoodIn wsX5_met wsX5_refuseLong := goodIn_r _ [8, 9, 10, 11, 12, 3, 13, 14, 104, 105, 106, 107, 108, 109, 110, 111, 112, 113] (by decide +kernel) (by decide +kernel)
set_option maxRecDepth 20000 in
theorem gX5_met_X5_refuseLong : GoodIn wsX5_met (wsV RX5 95 RX5 yX5_refuseLong wsX5_refuseLong) := goodIn_app (goodIn_of _ (by decide +kernel)) ggX5_met_X5_refuseLong
set_option maxRecDepth 20000 in
theorem ggX5_met_X5_tallyNow : GoodIn wsX5_met wsX5_tallyNow := goodIn_r _ [18, 19, 20, 21, 22, 3, 23, 24, 25, 26, 27, 28, 29, 30, 31, 32, 33, 34, 35, 36, 37, 38, 39, 40, 41, 42, 43, 44, 45, 46, 47, 48, 49, 50, 51, 52, 53, 54, 55, 56, 57, 58, 59, 60, 61, 62, 63, 64, 65, 66, 67, 68, 69, 70, 71, 72, 73, 74, 75, 76, 77, 78, 79, 80, 81, 82, 83, 84, 85, 86, 104, 105, 106, 107, 108, 109, 110, 111, 112, 113, 114, 115, 116, 117, 118, 119, 120, 121, 122, 123, 124, 125, 126, 127, 128, 129, 130, 131] (by decide +kernel) (by decide +kernel)
set_option maxRecDepth 20000 in
theorem gX5_met_X5_tallyNow : GoodIn wsX5_met (wsV RX5 99 RX5 yX5_tallyNow wsX5_tallyNow) := goodIn_app (goodIn_of _ (by decide +kernel)) ggX5_met_X5_tallyNow
set_option maxRecDepth 20000 in
theorem ggX5_met_X1_sum : GoodIn wsX5_met wsX1_sum := goodIn_r _ [90, 33, 91, 92, 93, 29, 94, 36, 67, 68, 69, 41, 70, 43, 60, 61, 62, 95, 96, 97, 122, 123, 124, 125, 126, 127, 128, 129] (by decide +kernel) (by decide +kernel)
set_option maxRecDepth 20000 in
theorem gX5_met_X1_sum : GoodIn wsX5_met (wsV RX5 103 RX1 yX1_sum wsX1_sum) := goodIn_app (goodIn_of _ (by decide +kernel)) ggX5_met_X1_sum
set_option maxRecDepth 20000 in
theorem ggX5_met_X5_fraction : GoodIn wsX5_met wsX5_fraction := goodIn_r _ [100, 101, 102, 3, 103] (by decide +kernel) (by decide +kernel)
set_option maxRecDepth 20000 in
theorem gX5_met_X5_fraction : GoodIn wsX5_met (va_wsS RX5 109 yX5_fraction wsX5_fraction) := goodIn_app (goodIn_of _ (by decide +kernel)) ggX5_met_X5_fraction
theorem dX5_met_0 : decode cX5_met 0 = .ok (.iload_n 1, 1) := by decide +kernel
theorem dX5_met_1 : decode cX5_met 1 = .ok (.ifCond .lt 15, 3) := by decide +kernel
theorem dX5_met_4 : decode cX5_met 4 = .ok (.iload_n 1, 1) := by decide +kernel
theorem dX5_met_5 : decode cX5_met 5 = .ok (.iconst 1, 1) := by decide +kernel
theorem dX5_met_6 : decode cX5_met 6 = .ok (.if_icmp .gt 10, 3) := by decide +kernel
theorem dX5_met_9 : decode cX5_met 9 = .ok (.iload_n 2, 1) := by decide +kernel
theorem dX5_met_10 : decode cX5_met 10 = .ok (.invokestatic 91, 3) := by decide +kernel
theorem dX5_met_13 : decode cX5_met 13 = .ok (.ifCond .eq 10, 3) := by decide +kernel
theorem dX5_met_16 : decode cX5_met 16 = .ok (.aload_n 0, 1) := by decide +kernel
theorem dX5_met_17 : decode cX5_met 17 = .ok (.bipush (-2), 2) := by decide +kernel
theorem dX5_met_19 : decode cX5_met 19 = .ok (.invokevirtual 95, 3) := by decide +kernel
theorem dX5_met_22 : decode cX5_met 22 = .ok (.lreturn, 1) := by decide +kernel
theorem dX5_met_23 : decode cX5_met 23 = .ok (.aload_n 0, 1) := by decide +kernel
theorem dX5_met_24 : decode cX5_met 24 = .ok (.invokevirtual 99, 3) := by decide +kernel
theorem dX5_met_27 : decode cX5_met 27 = .ok (.astore_n 3, 1) := by decide +kernel
theorem dX5_met_28 : decode cX5_met 28 = .ok (.iload_n 1, 1) := by decide +kernel
theorem dX5_met_29 : decode cX5_met 29 = .ok (.ifCond .ne 8, 3) := by decide +kernel
theorem dX5_met_32 : decode cX5_met 32 = .ok (.bipush 8, 2) := by decide +kernel
theorem dX5_met_34 : decode cX5_met 34 = .ok (.goto 5, 3) := by decide +kernel
theorem dX5_met_37 : decode cX5_met 37 = .ok (.bipush 9, 2) := by decide +kernel
theorem dX5_met_39 : decode cX5_met 39 = .ok (.istore 4, 2) := by decide +kernel
theorem dX5_met_41 : decode cX5_met 41 = .ok (.aload_n 3, 1) := by decide +kernel
theorem dX5_met_42 : decode cX5_met 42 = .ok (.iload 4, 2) := by decide +kernel
theorem dX5_met_44 : decode cX5_met 44 = .ok (.iconst 0, 1) := by decide +kernel
theorem dX5_met_45 : decode cX5_met 45 = .ok (.invokevirtual 103, 3) := by decide +kernel
theorem dX5_met_48 : decode cX5_met 48 = .ok (.aload_n 3, 1) := by decide +kernel
theorem dX5_met_49 : decode cX5_met 49 = .ok (.iconst 0, 1) := by decide +kernel
theorem dX5_met_50 : decode cX5_met 50 = .ok (.iconst 0, 1) := by decide +kernel
theorem dX5_met_51 : decode cX5_met 51 = .ok (.invokevirtual 103, 3) := by decide +kernel
theorem dX5_met_54 : decode cX5_met 54 = .ok (.iload_n 2, 1) := by decide +kernel
theorem dX5_met_55 : decode cX5_met 55 = .ok (.invokestatic 109, 3) := by decide +kernel
theorem dX5_met_58 : decode cX5_met 58 = .ok (.lreturn, 1) := by decide +kernel
set_option maxRecDepth 20000 in
theorem ggX5_says_X5_refuseLong : GoodIn wsX5_says wsX5_refuseLong := goodIn_r _ [5, 6, 7, 8, 9, 4, 10, 11, 109, 110, 111, 112, 113, 114, 115, 116, 117, 118] (by decide +kernel) (by decide +kernel)
set_option maxRecDepth 20000 in
theorem gX5_says_X5_refuseLong : GoodIn wsX5_says (wsV RX5 95 RX5 yX5_refuseLong wsX5_refuseLong) := goodIn_app (goodIn_of _ (by decide +kernel)) ggX5_says_X5_refuseLong
set_option maxRecDepth 20000 in
theorem ggX5_says_X5_isNoSort : GoodIn wsX5_says wsX5_isNoSort := goodIn_r _ [14] (by decide +kernel) (by decide +kernel)
set_option maxRecDepth 20000 in
theorem gX5_says_X5_isNoSort : GoodIn wsX5_says (va_wsS RX5 91 yX5_isNoSort wsX5_isNoSort) := goodIn_app (goodIn_of _ (by decide +kernel)) ggX5_says_X5_isNoSort
set_option maxRecDepth 20000 in
theorem ggX5_says_X5_tallyNow : GoodIn wsX5_says wsX5_tallyNow := goodIn_r _ [18, 19, 20, 21, 22, 4, 23, 24, 25, 26, 27, 28, 29, 30, 31, 32, 33, 34, 35, 36, 37, 38, 39, 40, 41, 42, 43, 44, 45, 46, 47, 48, 49, 50, 51, 52, 53, 54, 55, 56, 57, 58, 59, 60, 61, 62, 63, 64, 65, 66, 67, 68, 69, 70, 71, 72, 73, 74, 75, 76, 77, 78, 79, 80, 81, 82, 83, 84, 85, 86, 109, 110, 111, 112, 113, 114, 115, 116, 117, 118, 119, 120, 121, 122, 123, 124, 125, 126, 127, 128, 129, 130, 131, 132, 133, 134, 135, 136] (by decide +kernel) (by decide +kernel)
set_option maxRecDepth 20000 in
theorem gX5_says_X5_tallyNow : GoodIn wsX5_says (wsV RX5 99 RX5 yX5_tallyNow wsX5_tallyNow) := goodIn_app (goodIn_of _ (by decide +kernel)) ggX5_says_X5_tallyNow
set_option maxRecDepth 20000 in
theorem ggX5_says_X1_families : GoodIn wsX5_says wsX1_families := goodIn_r _ [90, 36, 67, 68, 69, 41, 70, 43, 60, 61, 62, 127, 128, 129, 130, 131, 132, 133, 134] (by decide +kernel) (by decide +kernel)
set_option maxRecDepth 20000 in
theorem gX5_says_X1_families : GoodIn wsX5_says (wsV RX5 115 RX1 yX1_families wsX1_families) := goodIn_app (goodIn_of _ (by decide +kernel)) ggX5_says_X1_families
set_option maxRecDepth 20000 in
theorem ggX5_says_X1_sum : GoodIn wsX5_says wsX1_sum := goodIn_r _ [94, 33, 95, 88, 89, 29, 90, 36, 67, 68, 69, 41, 70, 43, 60, 61, 62, 96, 97, 98, 127, 128, 129, 130, 131, 132, 133, 134] (by decide +kernel) (by decide +kernel)
set_option maxRecDepth 20000 in
theorem gX5_says_X1_sum : GoodIn wsX5_says (wsV RX5 103 RX1 yX1_sum wsX1_sum) := goodIn_app (goodIn_of _ (by decide +kernel)) ggX5_says_X1_sum
set_option maxRecDepth 20000 in
theorem ggX5_says_X5_fraction : GoodIn wsX5_says wsX5_fraction := goodIn_r _ [101, 102, 103, 4, 104] (by decide +kernel) (by decide +kernel)
set_option maxRecDepth 20000 in
theorem gX5_says_X5_fraction : GoodIn wsX5_says (va_wsS RX5 109 yX5_fraction wsX5_fraction) := goodIn_app (goodIn_of _ (by decide +kernel)) ggX5_says_X5_fraction
set_option maxRecDepth 20000 in
theorem ggX5_says_X1_familiesFrom : GoodIn wsX5_says wsX1_familiesFrom := goodIn_r _ [108, 36, 67, 68, 69, 41, 70, 43, 60, 61, 62, 127, 128, 129, 130, 131, 132, 133, 134] (by decide +kernel) (by decide +kernel)
set_option maxRecDepth 20000 in
theorem gX5_says_X1_familiesFrom : GoodIn wsX5_says (wsV RX5 118 RX1 yX1_familiesFrom wsX1_familiesFrom) := goodIn_app (goodIn_of _ (by decide +kernel)) ggX5_says_X1_familiesFrom
theorem dX5_says_0 : decode cX5_says 0 = .ok (.iload_n 2, 1) := by decide +kernel
theorem dX5_says_1 : decode cX5_says 1 = .ok (.ifCond .lt 7, 3) := by decide +kernel
theorem dX5_says_4 : decode cX5_says 4 = .ok (.iload_n 3, 1) := by decide +kernel
theorem dX5_says_5 : decode cX5_says 5 = .ok (.ifCond .ge 10, 3) := by decide +kernel
theorem dX5_says_8 : decode cX5_says 8 = .ok (.aload_n 0, 1) := by decide +kernel
theorem dX5_says_9 : decode cX5_says 9 = .ok (.bipush (-4), 2) := by decide +kernel
theorem dX5_says_11 : decode cX5_says 11 = .ok (.invokevirtual 95, 3) := by decide +kernel
theorem dX5_says_14 : decode cX5_says 14 = .ok (.lreturn, 1) := by decide +kernel
theorem dX5_says_15 : decode cX5_says 15 = .ok (.iload_n 2, 1) := by decide +kernel
theorem dX5_says_16 : decode cX5_says 16 = .ok (.bipush 9, 2) := by decide +kernel
theorem dX5_says_18 : decode cX5_says 18 = .ok (.if_icmp .gt 9, 3) := by decide +kernel
theorem dX5_says_21 : decode cX5_says 21 = .ok (.iload_n 3, 1) := by decide +kernel
theorem dX5_says_22 : decode cX5_says 22 = .ok (.bipush 9, 2) := by decide +kernel
theorem dX5_says_24 : decode cX5_says 24 = .ok (.if_icmp .le 10, 3) := by decide +kernel
theorem dX5_says_27 : decode cX5_says 27 = .ok (.aload_n 0, 1) := by decide +kernel
theorem dX5_says_28 : decode cX5_says 28 = .ok (.bipush (-6), 2) := by decide +kernel
theorem dX5_says_30 : decode cX5_says 30 = .ok (.invokevirtual 95, 3) := by decide +kernel
theorem dX5_says_33 : decode cX5_says 33 = .ok (.lreturn, 1) := by decide +kernel
theorem dX5_says_34 : decode cX5_says 34 = .ok (.iload_n 1, 1) := by decide +kernel
theorem dX5_says_35 : decode cX5_says 35 = .ok (.invokestatic 91, 3) := by decide +kernel
theorem dX5_says_38 : decode cX5_says 38 = .ok (.ifCond .ne 22, 3) := by decide +kernel
theorem dX5_says_41 : decode cX5_says 41 = .ok (.iload 4, 2) := by decide +kernel
theorem dX5_says_43 : decode cX5_says 43 = .ok (.ifCond .lt 17, 3) := by decide +kernel
theorem dX5_says_46 : decode cX5_says 46 = .ok (.iload 4, 2) := by decide +kernel
theorem dX5_says_48 : decode cX5_says 48 = .ok (.iconst 1, 1) := by decide +kernel
theorem dX5_says_49 : decode cX5_says 49 = .ok (.if_icmp .gt 11, 3) := by decide +kernel
theorem dX5_says_52 : decode cX5_says 52 = .ok (.iload 5, 2) := by decide +kernel
theorem dX5_says_54 : decode cX5_says 54 = .ok (.invokestatic 91, 3) := by decide +kernel
theorem dX5_says_57 : decode cX5_says 57 = .ok (.ifCond .eq 10, 3) := by decide +kernel
theorem dX5_says_60 : decode cX5_says 60 = .ok (.aload_n 0, 1) := by decide +kernel
theorem dX5_says_61 : decode cX5_says 61 = .ok (.bipush (-2), 2) := by decide +kernel
theorem dX5_says_63 : decode cX5_says 63 = .ok (.invokevirtual 95, 3) := by decide +kernel
theorem dX5_says_66 : decode cX5_says 66 = .ok (.lreturn, 1) := by decide +kernel
theorem dX5_says_67 : decode cX5_says 67 = .ok (.aload_n 0, 1) := by decide +kernel
theorem dX5_says_68 : decode cX5_says 68 = .ok (.invokevirtual 99, 3) := by decide +kernel
theorem dX5_says_71 : decode cX5_says 71 = .ok (.astore 6, 2) := by decide +kernel
theorem dX5_says_73 : decode cX5_says 73 = .ok (.iload_n 2, 1) := by decide +kernel
theorem dX5_says_74 : decode cX5_says 74 = .ok (.iload_n 1, 1) := by decide +kernel
theorem dX5_says_75 : decode cX5_says 75 = .ok (.iadd, 1) := by decide +kernel
theorem dX5_says_76 : decode cX5_says 76 = .ok (.istore 7, 2) := by decide +kernel
theorem dX5_says_78 : decode cX5_says 78 = .ok (.iload_n 3, 1) := by decide +kernel
theorem dX5_says_79 : decode cX5_says 79 = .ok (.iconst 1, 1) := by decide +kernel
theorem dX5_says_80 : decode cX5_says 80 = .ok (.iadd, 1) := by decide +kernel
theorem dX5_says_81 : decode cX5_says 81 = .ok (.iload_n 1, 1) := by decide +kernel
theorem dX5_says_82 : decode cX5_says 82 = .ok (.isub, 1) := by decide +kernel
theorem dX5_says_83 : decode cX5_says 83 = .ok (.istore 8, 2) := by decide +kernel
theorem dX5_says_85 : decode cX5_says 85 = .ok (.aload 6, 2) := by decide +kernel
theorem dX5_says_87 : decode cX5_says 87 = .ok (.iload 7, 2) := by decide +kernel
theorem dX5_says_89 : decode cX5_says 89 = .ok (.iload 8, 2) := by decide +kernel
theorem dX5_says_91 : decode cX5_says 91 = .ok (.invokevirtual 115, 3) := by decide +kernel
theorem dX5_says_94 : decode cX5_says 94 = .ok (.iload_n 1, 1) := by decide +kernel
theorem dX5_says_95 : decode cX5_says 95 = .ok (.iconst 1, 1) := by decide +kernel
theorem dX5_says_96 : decode cX5_says 96 = .ok (.if_icmp .ne 8, 3) := by decide +kernel
theorem dX5_says_99 : decode cX5_says 99 = .ok (.iload 7, 2) := by decide +kernel
theorem dX5_says_101 : decode cX5_says 101 = .ok (.goto 5, 3) := by decide +kernel
theorem dX5_says_104 : decode cX5_says 104 = .ok (.iload 8, 2) := by decide +kernel
theorem dX5_says_106 : decode cX5_says 106 = .ok (.i2l, 1) := by decide +kernel
theorem dX5_says_107 : decode cX5_says 107 = .ok (.lmul, 1) := by decide +kernel
theorem dX5_says_108 : decode cX5_says 108 = .ok (.lstore 9, 2) := by decide +kernel
theorem dX5_says_110 : decode cX5_says 110 = .ok (.iload 4, 2) := by decide +kernel
theorem dX5_says_112 : decode cX5_says 112 = .ok (.ifCond .ne 18, 3) := by decide +kernel
theorem dX5_says_115 : decode cX5_says 115 = .ok (.lload 9, 2) := by decide +kernel
theorem dX5_says_117 : decode cX5_says 117 = .ok (.aload 6, 2) := by decide +kernel
theorem dX5_says_119 : decode cX5_says 119 = .ok (.iconst 0, 1) := by decide +kernel
theorem dX5_says_120 : decode cX5_says 120 = .ok (.iconst 0, 1) := by decide +kernel
theorem dX5_says_121 : decode cX5_says 121 = .ok (.invokevirtual 103, 3) := by decide +kernel
theorem dX5_says_124 : decode cX5_says 124 = .ok (.iload 5, 2) := by decide +kernel
theorem dX5_says_126 : decode cX5_says 126 = .ok (.invokestatic 109, 3) := by decide +kernel
theorem dX5_says_129 : decode cX5_says 129 = .ok (.lreturn, 1) := by decide +kernel
theorem dX5_says_130 : decode cX5_says 130 = .ok (.aload 6, 2) := by decide +kernel
theorem dX5_says_132 : decode cX5_says 132 = .ok (.iload_n 1, 1) := by decide +kernel
theorem dX5_says_133 : decode cX5_says 133 = .ok (.iload 7, 2) := by decide +kernel
theorem dX5_says_135 : decode cX5_says 135 = .ok (.iload 8, 2) := by decide +kernel
theorem dX5_says_137 : decode cX5_says 137 = .ok (.invokevirtual 118, 3) := by decide +kernel
theorem dX5_says_140 : decode cX5_says 140 = .ok (.lload 9, 2) := by decide +kernel
theorem dX5_says_142 : decode cX5_says 142 = .ok (.iload 5, 2) := by decide +kernel
theorem dX5_says_144 : decode cX5_says 144 = .ok (.invokestatic 109, 3) := by decide +kernel
theorem dX5_says_147 : decode cX5_says 147 = .ok (.lreturn, 1) := by decide +kernel
set_option maxRecDepth 20000 in
theorem ggX5_trial_X5_refuseLong : GoodIn wsX5_trial wsX5_refuseLong := goodIn_r _ [8, 9, 10, 11, 12, 7, 13, 14, 96, 97, 98, 99, 100, 101, 102, 103, 104, 105] (by decide +kernel) (by decide +kernel)
set_option maxRecDepth 20000 in
theorem gX5_trial_X5_refuseLong : GoodIn wsX5_trial (wsV RX5 95 RX5 yX5_refuseLong wsX5_refuseLong) := goodIn_app (goodIn_of _ (by decide +kernel)) ggX5_trial_X5_refuseLong
set_option maxRecDepth 20000 in
theorem ggX5_trial_X5_isNoSort : GoodIn wsX5_trial wsX5_isNoSort := goodIn_r _ [17] (by decide +kernel) (by decide +kernel)
set_option maxRecDepth 20000 in
theorem gX5_trial_X5_isNoSort : GoodIn wsX5_trial (va_wsS RX5 91 yX5_isNoSort wsX5_isNoSort) := goodIn_app (goodIn_of _ (by decide +kernel)) ggX5_trial_X5_isNoSort
set_option maxRecDepth 20000 in
theorem ggX5_trial_X1_retell : GoodIn wsX5_trial wsX1_retell := goodIn_r _ [22, 23, 24, 25, 26, 27, 28, 29, 30, 31, 32, 33, 34, 35, 36, 37, 38, 39, 40, 41, 42, 43, 44, 45, 46, 47, 48, 49, 50, 51, 52, 53, 54, 55, 56, 57, 21, 58, 59, 60, 61, 62, 63, 7, 64, 65, 66, 67, 68, 69, 70, 71, 72, 73, 74, 75, 76, 77, 78, 114, 115, 116, 117, 118, 119, 120, 121, 122, 123] (by decide +kernel) (by decide +kernel)
set_option maxRecDepth 20000 in
theorem gX5_trial_X1_retell : GoodIn wsX5_trial (wsV RX5 128 RX1 yX1_retell wsX1_retell) := goodIn_app (goodIn_of _ (by decide +kernel)) ggX5_trial_X1_retell
set_option maxRecDepth 20000 in
theorem ggX5_trial_X1_sum : GoodIn wsX5_trial wsX1_sum := goodIn_r _ [82, 25, 83, 84, 85, 21, 86, 28, 59, 60, 61, 33, 62, 35, 52, 53, 54, 87, 88, 89, 114, 115, 116, 117, 118, 119, 120, 121] (by decide +kernel) (by decide +kernel)
set_option maxRecDepth 20000 in
theorem gX5_trial_X1_sum : GoodIn wsX5_trial (wsV RX5 103 RX1 yX1_sum wsX1_sum) := goodIn_app (goodIn_of _ (by decide +kernel)) ggX5_trial_X1_sum
set_option maxRecDepth 20000 in
theorem ggX5_trial_X5_fraction : GoodIn wsX5_trial wsX5_fraction := goodIn_r _ [92, 93, 94, 7, 95] (by decide +kernel) (by decide +kernel)
set_option maxRecDepth 20000 in
theorem gX5_trial_X5_fraction : GoodIn wsX5_trial (va_wsS RX5 109 yX5_fraction wsX5_fraction) := goodIn_app (goodIn_of _ (by decide +kernel)) ggX5_trial_X5_fraction
theorem dX5_trial_0 : decode cX5_trial 0 = .ok (.iload_n 1, 1) := by decide +kernel
theorem dX5_trial_1 : decode cX5_trial 1 = .ok (.iconst 1, 1) := by decide +kernel
theorem dX5_trial_2 : decode cX5_trial 2 = .ok (.if_icmp .lt 8, 3) := by decide +kernel
theorem dX5_trial_5 : decode cX5_trial 5 = .ok (.iload_n 2, 1) := by decide +kernel
theorem dX5_trial_6 : decode cX5_trial 6 = .ok (.iconst 1, 1) := by decide +kernel
theorem dX5_trial_7 : decode cX5_trial 7 = .ok (.if_icmp .ge 10, 3) := by decide +kernel
theorem dX5_trial_10 : decode cX5_trial 10 = .ok (.aload_n 0, 1) := by decide +kernel
theorem dX5_trial_11 : decode cX5_trial 11 = .ok (.bipush (-4), 2) := by decide +kernel
theorem dX5_trial_13 : decode cX5_trial 13 = .ok (.invokevirtual 95, 3) := by decide +kernel
theorem dX5_trial_16 : decode cX5_trial 16 = .ok (.lreturn, 1) := by decide +kernel
theorem dX5_trial_17 : decode cX5_trial 17 = .ok (.iload_n 1, 1) := by decide +kernel
theorem dX5_trial_18 : decode cX5_trial 18 = .ok (.bipush 10, 2) := by decide +kernel
theorem dX5_trial_20 : decode cX5_trial 20 = .ok (.if_icmp .gt 9, 3) := by decide +kernel
theorem dX5_trial_23 : decode cX5_trial 23 = .ok (.iload_n 2, 1) := by decide +kernel
theorem dX5_trial_24 : decode cX5_trial 24 = .ok (.bipush 9, 2) := by decide +kernel
theorem dX5_trial_26 : decode cX5_trial 26 = .ok (.if_icmp .le 10, 3) := by decide +kernel
theorem dX5_trial_29 : decode cX5_trial 29 = .ok (.aload_n 0, 1) := by decide +kernel
theorem dX5_trial_30 : decode cX5_trial 30 = .ok (.bipush (-6), 2) := by decide +kernel
theorem dX5_trial_32 : decode cX5_trial 32 = .ok (.invokevirtual 95, 3) := by decide +kernel
theorem dX5_trial_35 : decode cX5_trial 35 = .ok (.lreturn, 1) := by decide +kernel
theorem dX5_trial_36 : decode cX5_trial 36 = .ok (.iload_n 3, 1) := by decide +kernel
theorem dX5_trial_37 : decode cX5_trial 37 = .ok (.invokestatic 91, 3) := by decide +kernel
theorem dX5_trial_40 : decode cX5_trial 40 = .ok (.ifCond .eq 10, 3) := by decide +kernel
theorem dX5_trial_43 : decode cX5_trial 43 = .ok (.aload_n 0, 1) := by decide +kernel
theorem dX5_trial_44 : decode cX5_trial 44 = .ok (.bipush (-2), 2) := by decide +kernel
theorem dX5_trial_46 : decode cX5_trial 46 = .ok (.invokevirtual 95, 3) := by decide +kernel
theorem dX5_trial_49 : decode cX5_trial 49 = .ok (.lreturn, 1) := by decide +kernel
theorem dX5_trial_50 : decode cX5_trial 50 = .ok (.aload_n 0, 1) := by decide +kernel
theorem dX5_trial_51 : decode cX5_trial 51 = .ok (.getfield 45, 3) := by decide +kernel
theorem dX5_trial_54 : decode cX5_trial 54 = .ok (.iconst 2, 1) := by decide +kernel
theorem dX5_trial_55 : decode cX5_trial 55 = .ok (.iload_n 2, 1) := by decide +kernel
theorem dX5_trial_56 : decode cX5_trial 56 = .ok (.iload_n 1, 1) := by decide +kernel
theorem dX5_trial_57 : decode cX5_trial 57 = .ok (.aload_n 0, 1) := by decide +kernel
theorem dX5_trial_58 : decode cX5_trial 58 = .ok (.getfield 10, 3) := by decide +kernel
theorem dX5_trial_61 : decode cX5_trial 61 = .ok (.getfield 122, 3) := by decide +kernel
theorem dX5_trial_64 : decode cX5_trial 64 = .ok (.aload_n 0, 1) := by decide +kernel
theorem dX5_trial_65 : decode cX5_trial 65 = .ok (.getfield 10, 3) := by decide +kernel
theorem dX5_trial_68 : decode cX5_trial 68 = .ok (.getfield 125, 3) := by decide +kernel
theorem dX5_trial_71 : decode cX5_trial 71 = .ok (.invokevirtual 128, 3) := by decide +kernel
theorem dX5_trial_74 : decode cX5_trial 74 = .ok (.aload_n 0, 1) := by decide +kernel
theorem dX5_trial_75 : decode cX5_trial 75 = .ok (.getfield 45, 3) := by decide +kernel
theorem dX5_trial_78 : decode cX5_trial 78 = .ok (.bipush 10, 2) := by decide +kernel
theorem dX5_trial_80 : decode cX5_trial 80 = .ok (.iload_n 2, 1) := by decide +kernel
theorem dX5_trial_81 : decode cX5_trial 81 = .ok (.invokevirtual 103, 3) := by decide +kernel
theorem dX5_trial_84 : decode cX5_trial 84 = .ok (.ldc2_w 107, 3) := by decide +kernel
theorem dX5_trial_87 : decode cX5_trial 87 = .ok (.iload_n 3, 1) := by decide +kernel
theorem dX5_trial_88 : decode cX5_trial 88 = .ok (.invokestatic 109, 3) := by decide +kernel
theorem dX5_trial_91 : decode cX5_trial 91 = .ok (.lreturn, 1) := by decide +kernel
set_option maxRecDepth 20000 in
theorem ggX5_row_X5_isNoSort : GoodIn wsX5_row wsX5_isNoSort := goodIn_r _ [6] (by decide +kernel) (by decide +kernel)
set_option maxRecDepth 20000 in
theorem gX5_row_X5_isNoSort : GoodIn wsX5_row (va_wsS RX5 91 yX5_isNoSort wsX5_isNoSort) := goodIn_app (goodIn_of _ (by decide +kernel)) ggX5_row_X5_isNoSort
set_option maxRecDepth 20000 in
theorem ggX5_row_X5_refuse : GoodIn wsX5_row wsX5_refuse := goodIn_r _ [10, 11, 12, 13, 14, 15, 16, 17, 18, 19, 20, 21] (by decide +kernel) (by decide +kernel)
set_option maxRecDepth 20000 in
theorem gX5_row_X5_refuse : GoodIn wsX5_row (wsV RX5 49 RX5 yX5_refuse wsX5_refuse) := goodIn_app (goodIn_of _ (by decide +kernel)) ggX5_row_X5_refuse
theorem dX5_row_0 : decode cX5_row 0 = .ok (.iload_n 1, 1) := by decide +kernel
theorem dX5_row_1 : decode cX5_row 1 = .ok (.invokestatic 91, 3) := by decide +kernel
theorem dX5_row_4 : decode cX5_row 4 = .ok (.ifCond .eq 10, 3) := by decide +kernel
theorem dX5_row_7 : decode cX5_row 7 = .ok (.aload_n 0, 1) := by decide +kernel
theorem dX5_row_8 : decode cX5_row 8 = .ok (.bipush (-2), 2) := by decide +kernel
theorem dX5_row_10 : decode cX5_row 10 = .ok (.invokevirtual 49, 3) := by decide +kernel
theorem dX5_row_13 : decode cX5_row 13 = .ok (.ireturn, 1) := by decide +kernel
theorem dX5_row_14 : decode cX5_row 14 = .ok (.aload_n 0, 1) := by decide +kernel
theorem dX5_row_15 : decode cX5_row 15 = .ok (.getfield 132, 3) := by decide +kernel
theorem dX5_row_18 : decode cX5_row 18 = .ok (.bipush 10, 2) := by decide +kernel
theorem dX5_row_20 : decode cX5_row 20 = .ok (.if_icmp .lt 10, 3) := by decide +kernel
theorem dX5_row_23 : decode cX5_row 23 = .ok (.aload_n 0, 1) := by decide +kernel
theorem dX5_row_24 : decode cX5_row 24 = .ok (.bipush (-6), 2) := by decide +kernel
theorem dX5_row_26 : decode cX5_row 26 = .ok (.invokevirtual 49, 3) := by decide +kernel
theorem dX5_row_29 : decode cX5_row 29 = .ok (.ireturn, 1) := by decide +kernel
theorem dX5_row_30 : decode cX5_row 30 = .ok (.aload_n 0, 1) := by decide +kernel
theorem dX5_row_31 : decode cX5_row 31 = .ok (.dup, 1) := by decide +kernel
theorem dX5_row_32 : decode cX5_row 32 = .ok (.getfield 135, 3) := by decide +kernel
theorem dX5_row_35 : decode cX5_row 35 = .ok (.iload_n 1, 1) := by decide +kernel
theorem dX5_row_36 : decode cX5_row 36 = .ok (.aload_n 0, 1) := by decide +kernel
theorem dX5_row_37 : decode cX5_row 37 = .ok (.getfield 132, 3) := by decide +kernel
theorem dX5_row_40 : decode cX5_row 40 = .ok (.ishl, 1) := by decide +kernel
theorem dX5_row_41 : decode cX5_row 41 = .ok (.ior, 1) := by decide +kernel
theorem dX5_row_42 : decode cX5_row 42 = .ok (.putfield 135, 3) := by decide +kernel
theorem dX5_row_45 : decode cX5_row 45 = .ok (.aload_n 0, 1) := by decide +kernel
theorem dX5_row_46 : decode cX5_row 46 = .ok (.dup, 1) := by decide +kernel
theorem dX5_row_47 : decode cX5_row 47 = .ok (.getfield 132, 3) := by decide +kernel
theorem dX5_row_50 : decode cX5_row 50 = .ok (.iconst 1, 1) := by decide +kernel
theorem dX5_row_51 : decode cX5_row 51 = .ok (.iadd, 1) := by decide +kernel
theorem dX5_row_52 : decode cX5_row 52 = .ok (.putfield 132, 3) := by decide +kernel
theorem dX5_row_55 : decode cX5_row 55 = .ok (.aload_n 0, 1) := by decide +kernel
theorem dX5_row_56 : decode cX5_row 56 = .ok (.getfield 132, 3) := by decide +kernel
theorem dX5_row_59 : decode cX5_row 59 = .ok (.ireturn, 1) := by decide +kernel
set_option maxRecDepth 20000 in
theorem ggX5_gone_X5_isNoSort : GoodIn wsX5_gone wsX5_isNoSort := goodIn_r _ [5] (by decide +kernel) (by decide +kernel)
set_option maxRecDepth 20000 in
theorem gX5_gone_X5_isNoSort : GoodIn wsX5_gone (va_wsS RX5 91 yX5_isNoSort wsX5_isNoSort) := goodIn_app (goodIn_of _ (by decide +kernel)) ggX5_gone_X5_isNoSort
set_option maxRecDepth 20000 in
theorem ggX5_gone_X5_refuseLong : GoodIn wsX5_gone wsX5_refuseLong := goodIn_r _ [9, 10, 11, 12, 13, 4, 14, 15, 59, 60, 61, 62, 63, 64, 65, 66, 67, 68] (by decide +kernel) (by decide +kernel)
set_option maxRecDepth 20000 in
theorem gX5_gone_X5_refuseLong : GoodIn wsX5_gone (wsV RX5 95 RX5 yX5_refuseLong wsX5_refuseLong) := goodIn_app (goodIn_of _ (by decide +kernel)) ggX5_gone_X5_refuseLong
set_option maxRecDepth 20000 in
theorem ggX5_gone_X5_lastInTwelfths : GoodIn wsX5_gone wsX5_lastInTwelfths := goodIn_r _ [19, 20, 21, 22, 23, 24, 25, 26, 27, 28, 29, 30, 4, 31, 32, 33, 34, 35, 36, 37, 38, 39, 40, 41, 42, 43, 44, 45, 46, 47, 48, 49, 50, 51, 52, 59, 60, 61, 62, 63, 64, 65, 66, 67, 68, 69, 70, 71, 72, 73, 74, 75, 76] (by decide +kernel) (by decide +kernel)
set_option maxRecDepth 20000 in
theorem gX5_gone_X5_lastInTwelfths : GoodIn wsX5_gone (wsV RX5 138 RX5 yX5_lastInTwelfths wsX5_lastInTwelfths) := goodIn_app (goodIn_of _ (by decide +kernel)) ggX5_gone_X5_lastInTwelfths
set_option maxRecDepth 20000 in
theorem ggX5_gone_X5_fraction : GoodIn wsX5_gone wsX5_fraction := goodIn_r _ [55, 56, 57, 4, 58] (by decide +kernel) (by decide +kernel)
set_option maxRecDepth 20000 in
theorem gX5_gone_X5_fraction : GoodIn wsX5_gone (va_wsS RX5 109 yX5_fraction wsX5_fraction) := goodIn_app (goodIn_of _ (by decide +kernel)) ggX5_gone_X5_fraction
theorem dX5_gone_0 : decode cX5_gone 0 = .ok (.iload_n 1, 1) := by decide +kernel
theorem dX5_gone_1 : decode cX5_gone 1 = .ok (.invokestatic 91, 3) := by decide +kernel
theorem dX5_gone_4 : decode cX5_gone 4 = .ok (.ifCond .eq 10, 3) := by decide +kernel
theorem dX5_gone_7 : decode cX5_gone 7 = .ok (.aload_n 0, 1) := by decide +kernel
theorem dX5_gone_8 : decode cX5_gone 8 = .ok (.bipush (-2), 2) := by decide +kernel
theorem dX5_gone_10 : decode cX5_gone 10 = .ok (.invokevirtual 95, 3) := by decide +kernel
theorem dX5_gone_13 : decode cX5_gone 13 = .ok (.lreturn, 1) := by decide +kernel
theorem dX5_gone_14 : decode cX5_gone 14 = .ok (.aload_n 0, 1) := by decide +kernel
theorem dX5_gone_15 : decode cX5_gone 15 = .ok (.invokevirtual 138, 3) := by decide +kernel
theorem dX5_gone_18 : decode cX5_gone 18 = .ok (.i2l, 1) := by decide +kernel
theorem dX5_gone_19 : decode cX5_gone 19 = .ok (.ldc2_w 141, 3) := by decide +kernel
theorem dX5_gone_22 : decode cX5_gone 22 = .ok (.iload_n 1, 1) := by decide +kernel
theorem dX5_gone_23 : decode cX5_gone 23 = .ok (.invokestatic 109, 3) := by decide +kernel
theorem dX5_gone_26 : decode cX5_gone 26 = .ok (.lreturn, 1) := by decide +kernel
set_option maxRecDepth 20000 in
theorem ggX5_shift_X5_refuse : GoodIn wsX5_shift wsX5_refuse := goodIn_r _ [5, 6, 93, 94, 95, 96, 97, 98, 99, 100, 101, 102] (by decide +kernel) (by decide +kernel)
set_option maxRecDepth 20000 in
theorem gX5_shift_X5_refuse : GoodIn wsX5_shift (wsV RX5 49 RX5 yX5_refuse wsX5_refuse) := goodIn_app (goodIn_of _ (by decide +kernel)) ggX5_shift_X5_refuse
set_option maxRecDepth 20000 in
theorem ggX5_shift_X5_compareAll : GoodIn wsX5_shift wsX5_compareAll := goodIn_r _ [10, 11, 12, 13, 4, 14, 15, 16, 17, 18, 19, 20, 21, 22, 23, 24, 25, 26, 27, 28, 29, 30, 31, 32, 33, 34, 35, 36, 37, 38, 39, 40, 41, 42, 43, 44, 45, 46, 47, 48, 49, 50, 51, 52, 53, 54, 55, 56, 57, 58, 59, 60, 61, 62, 63, 64, 65, 66, 67, 68, 69, 70, 71, 72, 73, 74, 75, 76, 77, 78, 79, 80, 81, 82, 83, 84, 85, 86, 87, 88, 89, 90, 91, 92, 93, 94, 95, 96, 97, 98, 99, 100, 101, 102, 103, 104, 105, 106, 107, 108, 109, 110, 111, 112, 113, 114, 115, 116, 117, 118, 119, 120] (by decide +kernel) (by decide +kernel)
set_option maxRecDepth 20000 in
theorem gX5_shift_X5_compareAll : GoodIn wsX5_shift (wsV RX5 143 RX5 yX5_compareAll wsX5_compareAll) := goodIn_app (goodIn_of _ (by decide +kernel)) ggX5_shift_X5_compareAll
theorem dX5_shift_0 : decode cX5_shift 0 = .ok (.iload_n 1, 1) := by decide +kernel
theorem dX5_shift_1 : decode cX5_shift 1 = .ok (.ifCond .lt 8, 3) := by decide +kernel
theorem dX5_shift_4 : decode cX5_shift 4 = .ok (.iload_n 1, 1) := by decide +kernel
theorem dX5_shift_5 : decode cX5_shift 5 = .ok (.iconst 1, 1) := by decide +kernel
theorem dX5_shift_6 : decode cX5_shift 6 = .ok (.if_icmp .le 10, 3) := by decide +kernel
theorem dX5_shift_9 : decode cX5_shift 9 = .ok (.aload_n 0, 1) := by decide +kernel
theorem dX5_shift_10 : decode cX5_shift 10 = .ok (.bipush (-2), 2) := by decide +kernel
theorem dX5_shift_12 : decode cX5_shift 12 = .ok (.invokevirtual 49, 3) := by decide +kernel
theorem dX5_shift_15 : decode cX5_shift 15 = .ok (.ireturn, 1) := by decide +kernel
theorem dX5_shift_16 : decode cX5_shift 16 = .ok (.iconst 0, 1) := by decide +kernel
theorem dX5_shift_17 : decode cX5_shift 17 = .ok (.istore_n 2, 1) := by decide +kernel
theorem dX5_shift_18 : decode cX5_shift 18 = .ok (.iconst 1, 1) := by decide +kernel
theorem dX5_shift_19 : decode cX5_shift 19 = .ok (.istore_n 3, 1) := by decide +kernel
theorem dX5_shift_20 : decode cX5_shift 20 = .ok (.iload_n 3, 1) := by decide +kernel
theorem dX5_shift_21 : decode cX5_shift 21 = .ok (.bipush 6, 2) := by decide +kernel
theorem dX5_shift_23 : decode cX5_shift 23 = .ok (.if_icmp .ge 36, 3) := by decide +kernel
theorem dX5_shift_26 : decode cX5_shift 26 = .ok (.aload_n 0, 1) := by decide +kernel
theorem dX5_shift_27 : decode cX5_shift 27 = .ok (.iload_n 3, 1) := by decide +kernel
theorem dX5_shift_28 : decode cX5_shift 28 = .ok (.iload_n 2, 1) := by decide +kernel
theorem dX5_shift_29 : decode cX5_shift 29 = .ok (.invokevirtual 143, 3) := by decide +kernel
theorem dX5_shift_32 : decode cX5_shift 32 = .ok (.istore 4, 2) := by decide +kernel
theorem dX5_shift_34 : decode cX5_shift 34 = .ok (.iload_n 1, 1) := by decide +kernel
theorem dX5_shift_35 : decode cX5_shift 35 = .ok (.ifCond .ne 11, 3) := by decide +kernel
theorem dX5_shift_38 : decode cX5_shift 38 = .ok (.iload 4, 2) := by decide +kernel
theorem dX5_shift_40 : decode cX5_shift 40 = .ok (.ifCond .le 13, 3) := by decide +kernel
theorem dX5_shift_43 : decode cX5_shift 43 = .ok (.goto 8, 3) := by decide +kernel
theorem dX5_shift_46 : decode cX5_shift 46 = .ok (.iload 4, 2) := by decide +kernel
theorem dX5_shift_48 : decode cX5_shift 48 = .ok (.ifCond .ge 5, 3) := by decide +kernel
theorem dX5_shift_51 : decode cX5_shift 51 = .ok (.iload_n 3, 1) := by decide +kernel
theorem dX5_shift_52 : decode cX5_shift 52 = .ok (.istore_n 2, 1) := by decide +kernel
theorem dX5_shift_53 : decode cX5_shift 53 = .ok (.iinc 3 1, 3) := by decide +kernel
theorem dX5_shift_56 : decode cX5_shift 56 = .ok (.goto (-36), 3) := by decide +kernel
theorem dX5_shift_59 : decode cX5_shift 59 = .ok (.iload_n 2, 1) := by decide +kernel
theorem dX5_shift_60 : decode cX5_shift 60 = .ok (.ireturn, 1) := by decide +kernel
set_option maxRecDepth 20000 in
theorem ggX5_fits_X5_refuse : GoodIn wsX5_fits wsX5_refuse := goodIn_r _ [6, 7, 36, 37, 38, 39, 40, 41, 42, 43, 44, 45] (by decide +kernel) (by decide +kernel)
set_option maxRecDepth 20000 in
theorem gX5_fits_X5_refuse : GoodIn wsX5_fits (wsV RX5 49 RX5 yX5_refuse wsX5_refuse) := goodIn_app (goodIn_of _ (by decide +kernel)) ggX5_fits_X5_refuse
set_option maxRecDepth 20000 in
theorem ggX5_fits_X3_endsAllSeen : GoodIn wsX5_fits wsX3_endsAllSeen := goodIn_r _ [12, 13, 14, 15, 16, 11, 17, 18, 19, 20, 21, 22, 23, 24, 25, 26, 27, 28, 29, 30, 5, 31, 46, 47, 48, 49, 50, 51, 52, 53] (by decide +kernel) (by decide +kernel)
set_option maxRecDepth 20000 in
theorem gX5_fits_X3_endsAllSeen : GoodIn wsX5_fits (wsV RX5 147 RX3 yX3_endsAllSeen wsX3_endsAllSeen) := goodIn_app (goodIn_of _ (by decide +kernel)) ggX5_fits_X3_endsAllSeen
set_option maxRecDepth 20000 in
theorem ggX5_fits_X3_countStoppedAhead : GoodIn wsX5_fits wsX3_countStoppedAhead := goodIn_r _ [35, 13, 14, 15, 16, 11, 17, 18, 19, 20, 21, 22, 23, 24, 25, 26, 27, 28, 29, 30, 5, 31, 46, 47, 48, 49, 50, 51, 52, 53] (by decide +kernel) (by decide +kernel)
set_option maxRecDepth 20000 in
theorem gX5_fits_X3_countStoppedAhead : GoodIn wsX5_fits (wsV RX5 150 RX3 yX3_countStoppedAhead wsX3_countStoppedAhead) := goodIn_app (goodIn_of _ (by decide +kernel)) ggX5_fits_X3_countStoppedAhead
theorem dX5_fits_0 : decode cX5_fits 0 = .ok (.iload_n 1, 1) := by decide +kernel
theorem dX5_fits_1 : decode cX5_fits 1 = .ok (.ifCond .lt 8, 3) := by decide +kernel
theorem dX5_fits_4 : decode cX5_fits 4 = .ok (.iload_n 1, 1) := by decide +kernel
theorem dX5_fits_5 : decode cX5_fits 5 = .ok (.iconst 1, 1) := by decide +kernel
theorem dX5_fits_6 : decode cX5_fits 6 = .ok (.if_icmp .le 10, 3) := by decide +kernel
theorem dX5_fits_9 : decode cX5_fits 9 = .ok (.aload_n 0, 1) := by decide +kernel
theorem dX5_fits_10 : decode cX5_fits 10 = .ok (.bipush (-2), 2) := by decide +kernel
theorem dX5_fits_12 : decode cX5_fits 12 = .ok (.invokevirtual 49, 3) := by decide +kernel
theorem dX5_fits_15 : decode cX5_fits 15 = .ok (.ireturn, 1) := by decide +kernel
theorem dX5_fits_16 : decode cX5_fits 16 = .ok (.iconst 0, 1) := by decide +kernel
theorem dX5_fits_17 : decode cX5_fits 17 = .ok (.istore_n 2, 1) := by decide +kernel
theorem dX5_fits_18 : decode cX5_fits 18 = .ok (.iconst 0, 1) := by decide +kernel
theorem dX5_fits_19 : decode cX5_fits 19 = .ok (.istore_n 3, 1) := by decide +kernel
theorem dX5_fits_20 : decode cX5_fits 20 = .ok (.iload_n 3, 1) := by decide +kernel
theorem dX5_fits_21 : decode cX5_fits 21 = .ok (.bipush 6, 2) := by decide +kernel
theorem dX5_fits_23 : decode cX5_fits 23 = .ok (.if_icmp .ge 53, 3) := by decide +kernel
theorem dX5_fits_26 : decode cX5_fits 26 = .ok (.iload_n 1, 1) := by decide +kernel
theorem dX5_fits_27 : decode cX5_fits 27 = .ok (.ifCond .ne 14, 3) := by decide +kernel
theorem dX5_fits_30 : decode cX5_fits 30 = .ok (.aload_n 0, 1) := by decide +kernel
theorem dX5_fits_31 : decode cX5_fits 31 = .ok (.getfield 10, 3) := by decide +kernel
theorem dX5_fits_34 : decode cX5_fits 34 = .ok (.iload_n 3, 1) := by decide +kernel
theorem dX5_fits_35 : decode cX5_fits 35 = .ok (.invokevirtual 147, 3) := by decide +kernel
theorem dX5_fits_38 : decode cX5_fits 38 = .ok (.goto 19, 3) := by decide +kernel
theorem dX5_fits_41 : decode cX5_fits 41 = .ok (.aload_n 0, 1) := by decide +kernel
theorem dX5_fits_42 : decode cX5_fits 42 = .ok (.getfield 10, 3) := by decide +kernel
theorem dX5_fits_45 : decode cX5_fits 45 = .ok (.iload_n 3, 1) := by decide +kernel
theorem dX5_fits_46 : decode cX5_fits 46 = .ok (.invokevirtual 150, 3) := by decide +kernel
theorem dX5_fits_49 : decode cX5_fits 49 = .ok (.ifCond .ne 7, 3) := by decide +kernel
theorem dX5_fits_52 : decode cX5_fits 52 = .ok (.iconst 1, 1) := by decide +kernel
theorem dX5_fits_53 : decode cX5_fits 53 = .ok (.goto 4, 3) := by decide +kernel
theorem dX5_fits_56 : decode cX5_fits 56 = .ok (.iconst 0, 1) := by decide +kernel
theorem dX5_fits_57 : decode cX5_fits 57 = .ok (.istore 4, 2) := by decide +kernel
theorem dX5_fits_59 : decode cX5_fits 59 = .ok (.iload 4, 2) := by decide +kernel
theorem dX5_fits_61 : decode cX5_fits 61 = .ok (.ifCond .eq 9, 3) := by decide +kernel
theorem dX5_fits_64 : decode cX5_fits 64 = .ok (.iload_n 2, 1) := by decide +kernel
theorem dX5_fits_65 : decode cX5_fits 65 = .ok (.iconst 1, 1) := by decide +kernel
theorem dX5_fits_66 : decode cX5_fits 66 = .ok (.iload_n 3, 1) := by decide +kernel
theorem dX5_fits_67 : decode cX5_fits 67 = .ok (.ishl, 1) := by decide +kernel
theorem dX5_fits_68 : decode cX5_fits 68 = .ok (.ior, 1) := by decide +kernel
theorem dX5_fits_69 : decode cX5_fits 69 = .ok (.istore_n 2, 1) := by decide +kernel
theorem dX5_fits_70 : decode cX5_fits 70 = .ok (.iinc 3 1, 3) := by decide +kernel
theorem dX5_fits_73 : decode cX5_fits 73 = .ok (.goto (-53), 3) := by decide +kernel
theorem dX5_fits_76 : decode cX5_fits 76 = .ok (.iload_n 2, 1) := by decide +kernel
theorem dX5_fits_77 : decode cX5_fits 77 = .ok (.ireturn, 1) := by decide +kernel
set_option maxRecDepth 20000 in
theorem ggX5_judge_X3_stopPlace : GoodIn wsX5_judge wsX3_stopPlace := goodIn_r _ [8, 9, 10, 11, 12, 13, 24, 25, 26, 27, 28, 29, 30, 31] (by decide +kernel) (by decide +kernel)
set_option maxRecDepth 20000 in
theorem gX5_judge_X3_stopPlace : GoodIn wsX5_judge (wsV RX5 153 RX3 yX3_stopPlace wsX3_stopPlace) := goodIn_app (goodIn_of _ (by decide +kernel)) ggX5_judge_X3_stopPlace
theorem dX5_judge_0 : decode cX5_judge 0 = .ok (.aload_n 0, 1) := by decide +kernel
theorem dX5_judge_1 : decode cX5_judge 1 = .ok (.getfield 10, 3) := by decide +kernel
theorem dX5_judge_4 : decode cX5_judge 4 = .ok (.aload_n 0, 1) := by decide +kernel
theorem dX5_judge_5 : decode cX5_judge 5 = .ok (.getfield 10, 3) := by decide +kernel
theorem dX5_judge_8 : decode cX5_judge 8 = .ok (.getfield 68, 3) := by decide +kernel
theorem dX5_judge_11 : decode cX5_judge 11 = .ok (.aload_n 0, 1) := by decide +kernel
theorem dX5_judge_12 : decode cX5_judge 12 = .ok (.getfield 132, 3) := by decide +kernel
theorem dX5_judge_15 : decode cX5_judge 15 = .ok (.aload_n 0, 1) := by decide +kernel
theorem dX5_judge_16 : decode cX5_judge 16 = .ok (.getfield 135, 3) := by decide +kernel
theorem dX5_judge_19 : decode cX5_judge 19 = .ok (.invokevirtual 153, 3) := by decide +kernel
theorem dX5_judge_22 : decode cX5_judge 22 = .ok (.istore_n 1, 1) := by decide +kernel
theorem dX5_judge_23 : decode cX5_judge 23 = .ok (.aload_n 0, 1) := by decide +kernel
theorem dX5_judge_24 : decode cX5_judge 24 = .ok (.getfield 132, 3) := by decide +kernel
theorem dX5_judge_27 : decode cX5_judge 27 = .ok (.istore_n 2, 1) := by decide +kernel
theorem dX5_judge_28 : decode cX5_judge 28 = .ok (.aload_n 0, 1) := by decide +kernel
theorem dX5_judge_29 : decode cX5_judge 29 = .ok (.iconst 0, 1) := by decide +kernel
theorem dX5_judge_30 : decode cX5_judge 30 = .ok (.putfield 132, 3) := by decide +kernel
theorem dX5_judge_33 : decode cX5_judge 33 = .ok (.aload_n 0, 1) := by decide +kernel
theorem dX5_judge_34 : decode cX5_judge 34 = .ok (.iconst 0, 1) := by decide +kernel
theorem dX5_judge_35 : decode cX5_judge 35 = .ok (.putfield 135, 3) := by decide +kernel
theorem dX5_judge_38 : decode cX5_judge 38 = .ok (.iload_n 1, 1) := by decide +kernel
theorem dX5_judge_39 : decode cX5_judge 39 = .ok (.iload_n 2, 1) := by decide +kernel
theorem dX5_judge_40 : decode cX5_judge 40 = .ok (.if_icmp .lt 6, 3) := by decide +kernel
theorem dX5_judge_43 : decode cX5_judge 43 = .ok (.bipush (-9), 2) := by decide +kernel
theorem dX5_judge_45 : decode cX5_judge 45 = .ok (.ireturn, 1) := by decide +kernel
theorem dX5_judge_46 : decode cX5_judge 46 = .ok (.iload_n 1, 1) := by decide +kernel
theorem dX5_judge_47 : decode cX5_judge 47 = .ok (.iload_n 2, 1) := by decide +kernel
theorem dX5_judge_48 : decode cX5_judge 48 = .ok (.iconst 1, 1) := by decide +kernel
theorem dX5_judge_49 : decode cX5_judge 49 = .ok (.isub, 1) := by decide +kernel
theorem dX5_judge_50 : decode cX5_judge 50 = .ok (.if_icmp .ne 8, 3) := by decide +kernel
theorem dX5_judge_53 : decode cX5_judge 53 = .ok (.bipush 20, 2) := by decide +kernel
theorem dX5_judge_55 : decode cX5_judge 55 = .ok (.goto 4, 3) := by decide +kernel
theorem dX5_judge_58 : decode cX5_judge 58 = .ok (.iload_n 1, 1) := by decide +kernel
theorem dX5_judge_59 : decode cX5_judge 59 = .ok (.ireturn, 1) := by decide +kernel
set_option maxRecDepth 20000 in
theorem ggX5_seen_X5_refuse : GoodIn wsX5_seen wsX5_refuse := goodIn_r _ [6, 7, 19, 20, 21, 22, 23, 24, 25, 26, 27, 28] (by decide +kernel) (by decide +kernel)
set_option maxRecDepth 20000 in
theorem gX5_seen_X5_refuse : GoodIn wsX5_seen (wsV RX5 49 RX5 yX5_refuse wsX5_refuse) := goodIn_app (goodIn_of _ (by decide +kernel)) ggX5_seen_X5_refuse
set_option maxRecDepth 20000 in
theorem ggX5_seen_X3_lengthOf : GoodIn wsX5_seen wsX3_lengthOf := goodIn_r _ [12, 13, 29, 30, 31, 32, 33, 34, 35, 36] (by decide +kernel) (by decide +kernel)
set_option maxRecDepth 20000 in
theorem gX5_seen_X3_lengthOf : GoodIn wsX5_seen (wsV RX5 159 RX3 yX3_lengthOf wsX3_lengthOf) := goodIn_app (goodIn_of _ (by decide +kernel)) ggX5_seen_X3_lengthOf
set_option maxRecDepth 20000 in
theorem ggX5_seen_X3_sortsOf : GoodIn wsX5_seen wsX3_sortsOf := goodIn_r _ [17, 18, 29, 30, 31, 32, 33, 34, 35, 36] (by decide +kernel) (by decide +kernel)
set_option maxRecDepth 20000 in
theorem gX5_seen_X3_sortsOf : GoodIn wsX5_seen (wsV RX5 162 RX3 yX3_sortsOf wsX3_sortsOf) := goodIn_app (goodIn_of _ (by decide +kernel)) ggX5_seen_X3_sortsOf
theorem dX5_seen_0 : decode cX5_seen 0 = .ok (.iload_n 1, 1) := by decide +kernel
theorem dX5_seen_1 : decode cX5_seen 1 = .ok (.ifCond .ge 10, 3) := by decide +kernel
theorem dX5_seen_4 : decode cX5_seen 4 = .ok (.aload_n 0, 1) := by decide +kernel
theorem dX5_seen_5 : decode cX5_seen 5 = .ok (.bipush (-4), 2) := by decide +kernel
theorem dX5_seen_7 : decode cX5_seen 7 = .ok (.invokevirtual 49, 3) := by decide +kernel
theorem dX5_seen_10 : decode cX5_seen 10 = .ok (.ireturn, 1) := by decide +kernel
theorem dX5_seen_11 : decode cX5_seen 11 = .ok (.iload_n 2, 1) := by decide +kernel
theorem dX5_seen_12 : decode cX5_seen 12 = .ok (.ifCond .lt 8, 3) := by decide +kernel
theorem dX5_seen_15 : decode cX5_seen 15 = .ok (.iload_n 2, 1) := by decide +kernel
theorem dX5_seen_16 : decode cX5_seen 16 = .ok (.iconst 1, 1) := by decide +kernel
theorem dX5_seen_17 : decode cX5_seen 17 = .ok (.if_icmp .le 10, 3) := by decide +kernel
theorem dX5_seen_20 : decode cX5_seen 20 = .ok (.aload_n 0, 1) := by decide +kernel
theorem dX5_seen_21 : decode cX5_seen 21 = .ok (.bipush (-2), 2) := by decide +kernel
theorem dX5_seen_23 : decode cX5_seen 23 = .ok (.invokevirtual 49, 3) := by decide +kernel
theorem dX5_seen_26 : decode cX5_seen 26 = .ok (.ireturn, 1) := by decide +kernel
theorem dX5_seen_27 : decode cX5_seen 27 = .ok (.iload_n 1, 1) := by decide +kernel
theorem dX5_seen_28 : decode cX5_seen 28 = .ok (.aload_n 0, 1) := by decide +kernel
theorem dX5_seen_29 : decode cX5_seen 29 = .ok (.getfield 10, 3) := by decide +kernel
theorem dX5_seen_32 : decode cX5_seen 32 = .ok (.getfield 157, 3) := by decide +kernel
theorem dX5_seen_35 : decode cX5_seen 35 = .ok (.if_icmp .lt 6, 3) := by decide +kernel
theorem dX5_seen_38 : decode cX5_seen 38 = .ok (.bipush (-9), 2) := by decide +kernel
theorem dX5_seen_40 : decode cX5_seen 40 = .ok (.ireturn, 1) := by decide +kernel
theorem dX5_seen_41 : decode cX5_seen 41 = .ok (.iload_n 2, 1) := by decide +kernel
theorem dX5_seen_42 : decode cX5_seen 42 = .ok (.ifCond .ne 14, 3) := by decide +kernel
theorem dX5_seen_45 : decode cX5_seen 45 = .ok (.aload_n 0, 1) := by decide +kernel
theorem dX5_seen_46 : decode cX5_seen 46 = .ok (.getfield 10, 3) := by decide +kernel
theorem dX5_seen_49 : decode cX5_seen 49 = .ok (.iload_n 1, 1) := by decide +kernel
theorem dX5_seen_50 : decode cX5_seen 50 = .ok (.invokevirtual 159, 3) := by decide +kernel
theorem dX5_seen_53 : decode cX5_seen 53 = .ok (.goto 11, 3) := by decide +kernel
theorem dX5_seen_56 : decode cX5_seen 56 = .ok (.aload_n 0, 1) := by decide +kernel
theorem dX5_seen_57 : decode cX5_seen 57 = .ok (.getfield 10, 3) := by decide +kernel
theorem dX5_seen_60 : decode cX5_seen 60 = .ok (.iload_n 1, 1) := by decide +kernel
theorem dX5_seen_61 : decode cX5_seen 61 = .ok (.invokevirtual 162, 3) := by decide +kernel
theorem dX5_seen_64 : decode cX5_seen 64 = .ok (.ireturn, 1) := by decide +kernel
set_option maxRecDepth 20000 in
theorem ggX5_cheats_X3_countStoppedAhead : GoodIn wsX5_cheats wsX3_countStoppedAhead := goodIn_r _ [6, 7, 8, 9, 10, 5, 11, 12, 13, 14, 15, 16, 17, 18, 19, 20, 21, 22, 23, 24, 25, 26, 37, 38, 39, 40, 41, 42, 43, 44] (by decide +kernel) (by decide +kernel)
set_option maxRecDepth 20000 in
theorem gX5_cheats_X3_countStoppedAhead : GoodIn wsX5_cheats (wsV RX5 150 RX3 yX3_countStoppedAhead wsX3_countStoppedAhead) := goodIn_app (goodIn_of _ (by decide +kernel)) ggX5_cheats_X3_countStoppedAhead
theorem dX5_cheats_0 : decode cX5_cheats 0 = .ok (.aload_n 0, 1) := by decide +kernel
theorem dX5_cheats_1 : decode cX5_cheats 1 = .ok (.getfield 10, 3) := by decide +kernel
theorem dX5_cheats_4 : decode cX5_cheats 4 = .ok (.aload_n 0, 1) := by decide +kernel
theorem dX5_cheats_5 : decode cX5_cheats 5 = .ok (.getfield 10, 3) := by decide +kernel
theorem dX5_cheats_8 : decode cX5_cheats 8 = .ok (.getfield 68, 3) := by decide +kernel
theorem dX5_cheats_11 : decode cX5_cheats 11 = .ok (.invokevirtual 150, 3) := by decide +kernel
theorem dX5_cheats_14 : decode cX5_cheats 14 = .ok (.ireturn, 1) := by decide +kernel
set_option maxRecDepth 20000 in
theorem ggX5_lots_X5_refuse : GoodIn wsX5_lots wsX5_refuse := goodIn_r _ [5, 6, 31, 32, 33, 34, 35, 36, 37, 38, 39, 40] (by decide +kernel) (by decide +kernel)
set_option maxRecDepth 20000 in
theorem gX5_lots_X5_refuse : GoodIn wsX5_lots (wsV RX5 49 RX5 yX5_refuse wsX5_refuse) := goodIn_app (goodIn_of _ (by decide +kernel)) ggX5_lots_X5_refuse
set_option maxRecDepth 20000 in
theorem ggX5_lots_X5_isNoSort : GoodIn wsX5_lots wsX5_isNoSort := goodIn_r _ [9] (by decide +kernel) (by decide +kernel)
set_option maxRecDepth 20000 in
theorem gX5_lots_X5_isNoSort : GoodIn wsX5_lots (va_wsS RX5 91 yX5_isNoSort wsX5_isNoSort) := goodIn_app (goodIn_of _ (by decide +kernel)) ggX5_lots_X5_isNoSort
set_option maxRecDepth 20000 in
theorem ggX5_lots_X5_countLots : GoodIn wsX5_lots wsX5_countLots := goodIn_r _ [13, 14, 15, 16, 17, 18, 19, 4, 20, 21, 22, 23, 24, 25, 26, 27, 28, 29, 30, 31, 32, 33, 34, 35, 36, 37, 38, 39, 40, 41, 42, 43, 44, 45, 46, 47, 48] (by decide +kernel) (by decide +kernel)
set_option maxRecDepth 20000 in
theorem gX5_lots_X5_countLots : GoodIn wsX5_lots (wsV RX5 165 RX5 yX5_countLots wsX5_countLots) := goodIn_app (goodIn_of _ (by decide +kernel)) ggX5_lots_X5_countLots
theorem dX5_lots_0 : decode cX5_lots 0 = .ok (.iload_n 1, 1) := by decide +kernel
theorem dX5_lots_1 : decode cX5_lots 1 = .ok (.iconst 1, 1) := by decide +kernel
theorem dX5_lots_2 : decode cX5_lots 2 = .ok (.if_icmp .ge 10, 3) := by decide +kernel
theorem dX5_lots_5 : decode cX5_lots 5 = .ok (.aload_n 0, 1) := by decide +kernel
theorem dX5_lots_6 : decode cX5_lots 6 = .ok (.bipush (-4), 2) := by decide +kernel
theorem dX5_lots_8 : decode cX5_lots 8 = .ok (.invokevirtual 49, 3) := by decide +kernel
theorem dX5_lots_11 : decode cX5_lots 11 = .ok (.ireturn, 1) := by decide +kernel
theorem dX5_lots_12 : decode cX5_lots 12 = .ok (.iload_n 1, 1) := by decide +kernel
theorem dX5_lots_13 : decode cX5_lots 13 = .ok (.bipush 40, 2) := by decide +kernel
theorem dX5_lots_15 : decode cX5_lots 15 = .ok (.if_icmp .le 10, 3) := by decide +kernel
theorem dX5_lots_18 : decode cX5_lots 18 = .ok (.aload_n 0, 1) := by decide +kernel
theorem dX5_lots_19 : decode cX5_lots 19 = .ok (.bipush (-6), 2) := by decide +kernel
theorem dX5_lots_21 : decode cX5_lots 21 = .ok (.invokevirtual 49, 3) := by decide +kernel
theorem dX5_lots_24 : decode cX5_lots 24 = .ok (.ireturn, 1) := by decide +kernel
theorem dX5_lots_25 : decode cX5_lots 25 = .ok (.iload_n 3, 1) := by decide +kernel
theorem dX5_lots_26 : decode cX5_lots 26 = .ok (.invokestatic 91, 3) := by decide +kernel
theorem dX5_lots_29 : decode cX5_lots 29 = .ok (.ifCond .eq 10, 3) := by decide +kernel
theorem dX5_lots_32 : decode cX5_lots 32 = .ok (.aload_n 0, 1) := by decide +kernel
theorem dX5_lots_33 : decode cX5_lots 33 = .ok (.bipush (-2), 2) := by decide +kernel
theorem dX5_lots_35 : decode cX5_lots 35 = .ok (.invokevirtual 49, 3) := by decide +kernel
theorem dX5_lots_38 : decode cX5_lots 38 = .ok (.ireturn, 1) := by decide +kernel
theorem dX5_lots_39 : decode cX5_lots 39 = .ok (.aload_n 0, 1) := by decide +kernel
theorem dX5_lots_40 : decode cX5_lots 40 = .ok (.iload_n 1, 1) := by decide +kernel
theorem dX5_lots_41 : decode cX5_lots 41 = .ok (.iload_n 2, 1) := by decide +kernel
theorem dX5_lots_42 : decode cX5_lots 42 = .ok (.iload_n 3, 1) := by decide +kernel
theorem dX5_lots_43 : decode cX5_lots 43 = .ok (.invokevirtual 165, 3) := by decide +kernel
theorem dX5_lots_46 : decode cX5_lots 46 = .ok (.ireturn, 1) := by decide +kernel
set_option maxRecDepth 20000 in
theorem ggX5_image_X3_copy : GoodIn wsX5_image wsX3_copy := goodIn_r _ [8, 9, 10, 11, 12, 13, 14, 15, 16, 17, 18, 19, 7, 20, 21, 22, 23, 24, 35, 36, 37, 38, 39, 40, 41, 42] (by decide +kernel) (by decide +kernel)
set_option maxRecDepth 20000 in
theorem gX5_image_X3_copy : GoodIn wsX5_image (wsV RX5 168 RX3 yX3_copy wsX3_copy) := goodIn_app (goodIn_of _ (by decide +kernel)) ggX5_image_X3_copy
theorem dX5_image_0 : decode cX5_image 0 = .ok (.aload_n 0, 1) := by decide +kernel
theorem dX5_image_1 : decode cX5_image 1 = .ok (.getfield 19, 3) := by decide +kernel
theorem dX5_image_4 : decode cX5_image 4 = .ok (.aload_n 0, 1) := by decide +kernel
theorem dX5_image_5 : decode cX5_image 5 = .ok (.getfield 10, 3) := by decide +kernel
theorem dX5_image_8 : decode cX5_image 8 = .ok (.invokevirtual 168, 3) := by decide +kernel
theorem dX5_image_11 : decode cX5_image 11 = .ok (.aload_n 0, 1) := by decide +kernel
theorem dX5_image_12 : decode cX5_image 12 = .ok (.iconst 1, 1) := by decide +kernel
theorem dX5_image_13 : decode cX5_image 13 = .ok (.putfield 172, 3) := by decide +kernel
theorem dX5_image_16 : decode cX5_image 16 = .ok (.aload_n 0, 1) := by decide +kernel
theorem dX5_image_17 : decode cX5_image 17 = .ok (.getfield 19, 3) := by decide +kernel
theorem dX5_image_20 : decode cX5_image 20 = .ok (.getfield 157, 3) := by decide +kernel
end
section
theorem dX5_image_23 : decode cX5_image 23 = .ok (.ireturn, 1) := by decide +kernel
set_option maxRecDepth 20000 in
theorem ggX5_on_X5_refuse : GoodIn wsX5_on wsX5_refuse := goodIn_r _ [8, 9, 31, 32, 33, 34, 35, 36, 37, 38, 39, 40] (by decide +kernel) (by decide +kernel)
set_option maxRecDepth 20000 in
theorem gX5_on_X5_refuse : GoodIn wsX5_on (wsV RX5 49 RX5 yX5_refuse wsX5_refuse) := goodIn_app (goodIn_of _ (by decide +kernel)) ggX5_on_X5_refuse
set_option maxRecDepth 20000 in
theorem ggX5_on_X3_copy : GoodIn wsX5_on wsX3_copy := goodIn_r _ [14, 15, 16, 17, 18, 19, 20, 21, 22, 23, 24, 25, 13, 26, 27, 28, 29, 30, 41, 42, 43, 44, 45, 46, 47, 48] (by decide +kernel) (by decide +kernel)
set_option maxRecDepth 20000 in
theorem gX5_on_X3_copy : GoodIn wsX5_on (wsV RX5 168 RX3 yX3_copy wsX3_copy) := goodIn_app (goodIn_of _ (by decide +kernel)) ggX5_on_X3_copy
theorem dX5_on_0 : decode cX5_on 0 = .ok (.aload_n 0, 1) := by decide +kernel
theorem dX5_on_1 : decode cX5_on 1 = .ok (.getfield 172, 3) := by decide +kernel
theorem dX5_on_4 : decode cX5_on 4 = .ok (.ifCond .ne 10, 3) := by decide +kernel
theorem dX5_on_7 : decode cX5_on 7 = .ok (.aload_n 0, 1) := by decide +kernel
theorem dX5_on_8 : decode cX5_on 8 = .ok (.bipush (-3), 2) := by decide +kernel
theorem dX5_on_10 : decode cX5_on 10 = .ok (.invokevirtual 49, 3) := by decide +kernel
theorem dX5_on_13 : decode cX5_on 13 = .ok (.ireturn, 1) := by decide +kernel
theorem dX5_on_14 : decode cX5_on 14 = .ok (.aload_n 0, 1) := by decide +kernel
theorem dX5_on_15 : decode cX5_on 15 = .ok (.getfield 10, 3) := by decide +kernel
theorem dX5_on_18 : decode cX5_on 18 = .ok (.aload_n 0, 1) := by decide +kernel
theorem dX5_on_19 : decode cX5_on 19 = .ok (.getfield 19, 3) := by decide +kernel
theorem dX5_on_22 : decode cX5_on 22 = .ok (.invokevirtual 168, 3) := by decide +kernel
theorem dX5_on_25 : decode cX5_on 25 = .ok (.aload_n 0, 1) := by decide +kernel
theorem dX5_on_26 : decode cX5_on 26 = .ok (.getfield 10, 3) := by decide +kernel
theorem dX5_on_29 : decode cX5_on 29 = .ok (.getfield 157, 3) := by decide +kernel
theorem dX5_on_32 : decode cX5_on 32 = .ok (.ireturn, 1) := by decide +kernel
set_option maxRecDepth 20000 in
theorem ggX5_count_X3_number : GoodIn wsX5_count wsX3_number := goodIn_r _ [9, 10, 11, 12, 23, 24, 25, 26, 27, 28, 29, 30] (by decide +kernel) (by decide +kernel)
set_option maxRecDepth 20000 in
theorem gX5_count_X3_number : GoodIn wsX5_count (wsV RX5 80 RX3 yX3_number wsX3_number) := goodIn_app (goodIn_of _ (by decide +kernel)) ggX5_count_X3_number
theorem dX5_count_0 : decode cX5_count 0 = .ok (.iload_n 1, 1) := by decide +kernel
theorem dX5_count_1 : decode cX5_count 1 = .ok (.tableswitch 93 0 7 #[47, 47, 47, 56, 64, 72, 80, 85], 47) := by decide +kernel
theorem dX5_count_48 : decode cX5_count 48 = .ok (.aload_n 0, 1) := by decide +kernel
theorem dX5_count_49 : decode cX5_count 49 = .ok (.getfield 10, 3) := by decide +kernel
theorem dX5_count_52 : decode cX5_count 52 = .ok (.iload_n 1, 1) := by decide +kernel
theorem dX5_count_53 : decode cX5_count 53 = .ok (.invokevirtual 80, 3) := by decide +kernel
theorem dX5_count_56 : decode cX5_count 56 = .ok (.ireturn, 1) := by decide +kernel
theorem dX5_count_57 : decode cX5_count 57 = .ok (.aload_n 0, 1) := by decide +kernel
theorem dX5_count_58 : decode cX5_count 58 = .ok (.getfield 10, 3) := by decide +kernel
theorem dX5_count_61 : decode cX5_count 61 = .ok (.getfield 68, 3) := by decide +kernel
theorem dX5_count_64 : decode cX5_count 64 = .ok (.ireturn, 1) := by decide +kernel
theorem dX5_count_65 : decode cX5_count 65 = .ok (.aload_n 0, 1) := by decide +kernel
theorem dX5_count_66 : decode cX5_count 66 = .ok (.getfield 10, 3) := by decide +kernel
theorem dX5_count_69 : decode cX5_count 69 = .ok (.getfield 71, 3) := by decide +kernel
theorem dX5_count_72 : decode cX5_count 72 = .ok (.ireturn, 1) := by decide +kernel
theorem dX5_count_73 : decode cX5_count 73 = .ok (.aload_n 0, 1) := by decide +kernel
theorem dX5_count_74 : decode cX5_count 74 = .ok (.getfield 10, 3) := by decide +kernel
theorem dX5_count_77 : decode cX5_count 77 = .ok (.getfield 157, 3) := by decide +kernel
theorem dX5_count_80 : decode cX5_count 80 = .ok (.ireturn, 1) := by decide +kernel
theorem dX5_count_81 : decode cX5_count 81 = .ok (.aload_n 0, 1) := by decide +kernel
theorem dX5_count_82 : decode cX5_count 82 = .ok (.getfield 132, 3) := by decide +kernel
theorem dX5_count_85 : decode cX5_count 85 = .ok (.ireturn, 1) := by decide +kernel
theorem dX5_count_86 : decode cX5_count 86 = .ok (.aload_n 0, 1) := by decide +kernel
theorem dX5_count_87 : decode cX5_count 87 = .ok (.getfield 25, 3) := by decide +kernel
theorem dX5_count_90 : decode cX5_count 90 = .ok (.getfield 53, 3) := by decide +kernel
theorem dX5_count_93 : decode cX5_count 93 = .ok (.ireturn, 1) := by decide +kernel
theorem dX5_count_94 : decode cX5_count 94 = .ok (.iload_n 1, 1) := by decide +kernel
theorem dX5_count_95 : decode cX5_count 95 = .ok (.bipush 10, 2) := by decide +kernel
theorem dX5_count_97 : decode cX5_count 97 = .ok (.if_icmp .le 27, 3) := by decide +kernel
theorem dX5_count_100 : decode cX5_count 100 = .ok (.iload_n 1, 1) := by decide +kernel
theorem dX5_count_101 : decode cX5_count 101 = .ok (.bipush 11, 2) := by decide +kernel
theorem dX5_count_103 : decode cX5_count 103 = .ok (.isub, 1) := by decide +kernel
theorem dX5_count_104 : decode cX5_count 104 = .ok (.aload_n 0, 1) := by decide +kernel
theorem dX5_count_105 : decode cX5_count 105 = .ok (.getfield 29, 3) := by decide +kernel
theorem dX5_count_108 : decode cX5_count 108 = .ok (.arraylength, 1) := by decide +kernel
theorem dX5_count_109 : decode cX5_count 109 = .ok (.if_icmp .ge 15, 3) := by decide +kernel
theorem dX5_count_112 : decode cX5_count 112 = .ok (.aload_n 0, 1) := by decide +kernel
theorem dX5_count_113 : decode cX5_count 113 = .ok (.getfield 29, 3) := by decide +kernel
theorem dX5_count_116 : decode cX5_count 116 = .ok (.iload_n 1, 1) := by decide +kernel
theorem dX5_count_117 : decode cX5_count 117 = .ok (.bipush 11, 2) := by decide +kernel
theorem dX5_count_119 : decode cX5_count 119 = .ok (.isub, 1) := by decide +kernel
theorem dX5_count_120 : decode cX5_count 120 = .ok (.iaload, 1) := by decide +kernel
theorem dX5_count_121 : decode cX5_count 121 = .ok (.goto 5, 3) := by decide +kernel
theorem dX5_count_124 : decode cX5_count 124 = .ok (.bipush (-9), 2) := by decide +kernel
theorem dX5_count_126 : decode cX5_count 126 = .ok (.ireturn, 1) := by decide +kernel
theorem dX5_refuse_0 : decode cX5_refuse 0 = .ok (.iconst (-1), 1) := by decide +kernel
theorem dX5_refuse_1 : decode cX5_refuse 1 = .ok (.iload_n 1, 1) := by decide +kernel
theorem dX5_refuse_2 : decode cX5_refuse 2 = .ok (.isub, 1) := by decide +kernel
theorem dX5_refuse_3 : decode cX5_refuse 3 = .ok (.istore_n 2, 1) := by decide +kernel
theorem dX5_refuse_4 : decode cX5_refuse 4 = .ok (.iload_n 2, 1) := by decide +kernel
theorem dX5_refuse_5 : decode cX5_refuse 5 = .ok (.ifCond .lt 22, 3) := by decide +kernel
theorem dX5_refuse_8 : decode cX5_refuse 8 = .ok (.iload_n 2, 1) := by decide +kernel
theorem dX5_refuse_9 : decode cX5_refuse 9 = .ok (.aload_n 0, 1) := by decide +kernel
theorem dX5_refuse_10 : decode cX5_refuse 10 = .ok (.getfield 29, 3) := by decide +kernel
theorem dX5_refuse_13 : decode cX5_refuse 13 = .ok (.arraylength, 1) := by decide +kernel
theorem dX5_refuse_14 : decode cX5_refuse 14 = .ok (.if_icmp .ge 13, 3) := by decide +kernel
theorem dX5_refuse_17 : decode cX5_refuse 17 = .ok (.aload_n 0, 1) := by decide +kernel
theorem dX5_refuse_18 : decode cX5_refuse 18 = .ok (.getfield 29, 3) := by decide +kernel
theorem dX5_refuse_21 : decode cX5_refuse 21 = .ok (.iload_n 2, 1) := by decide +kernel
theorem dX5_refuse_22 : decode cX5_refuse 22 = .ok (.dup2, 1) := by decide +kernel
theorem dX5_refuse_23 : decode cX5_refuse 23 = .ok (.iaload, 1) := by decide +kernel
theorem dX5_refuse_24 : decode cX5_refuse 24 = .ok (.iconst 1, 1) := by decide +kernel
theorem dX5_refuse_25 : decode cX5_refuse 25 = .ok (.iadd, 1) := by decide +kernel
theorem dX5_refuse_26 : decode cX5_refuse 26 = .ok (.iastore, 1) := by decide +kernel
theorem dX5_refuse_27 : decode cX5_refuse 27 = .ok (.iload_n 1, 1) := by decide +kernel
theorem dX5_refuse_28 : decode cX5_refuse 28 = .ok (.ireturn, 1) := by decide +kernel
set_option maxRecDepth 20000 in
theorem ggX5_refuseLong_X5_refuse : GoodIn wsX5_refuseLong wsX5_refuse := goodIn_r _ [6, 7, 8, 9, 10, 11, 12, 13, 14, 15, 16, 17] (by decide +kernel) (by decide +kernel)
set_option maxRecDepth 20000 in
theorem gX5_refuseLong_X5_refuse : GoodIn wsX5_refuseLong (wsV RX5 49 RX5 yX5_refuse wsX5_refuse) := goodIn_app (goodIn_of _ (by decide +kernel)) ggX5_refuseLong_X5_refuse
theorem dX5_refuseLong_0 : decode cX5_refuseLong 0 = .ok (.ldc2_w 176, 3) := by decide +kernel
theorem dX5_refuseLong_3 : decode cX5_refuseLong 3 = .ok (.aload_n 0, 1) := by decide +kernel
theorem dX5_refuseLong_4 : decode cX5_refuseLong 4 = .ok (.iload_n 1, 1) := by decide +kernel
theorem dX5_refuseLong_5 : decode cX5_refuseLong 5 = .ok (.invokevirtual 49, 3) := by decide +kernel
theorem dX5_refuseLong_8 : decode cX5_refuseLong 8 = .ok (.i2l, 1) := by decide +kernel
theorem dX5_refuseLong_9 : decode cX5_refuseLong 9 = .ok (.lsub, 1) := by decide +kernel
theorem dX5_refuseLong_10 : decode cX5_refuseLong 10 = .ok (.lreturn, 1) := by decide +kernel
theorem dX5_isNoSort_0 : decode cX5_isNoSort 0 = .ok (.iload_n 0, 1) := by decide +kernel
theorem dX5_isNoSort_1 : decode cX5_isNoSort 1 = .ok (.ifCond .lt 8, 3) := by decide +kernel
theorem dX5_isNoSort_4 : decode cX5_isNoSort 4 = .ok (.iload_n 0, 1) := by decide +kernel
theorem dX5_isNoSort_5 : decode cX5_isNoSort 5 = .ok (.iconst 1, 1) := by decide +kernel
theorem dX5_isNoSort_6 : decode cX5_isNoSort 6 = .ok (.if_icmp .le 7, 3) := by decide +kernel
theorem dX5_isNoSort_9 : decode cX5_isNoSort 9 = .ok (.iconst 1, 1) := by decide +kernel
theorem dX5_isNoSort_10 : decode cX5_isNoSort 10 = .ok (.goto 4, 3) := by decide +kernel
theorem dX5_isNoSort_13 : decode cX5_isNoSort 13 = .ok (.iconst 0, 1) := by decide +kernel
theorem dX5_isNoSort_14 : decode cX5_isNoSort 14 = .ok (.ireturn, 1) := by decide +kernel
set_option maxRecDepth 20000 in
theorem ggX5_tellText_X3_copy : GoodIn wsX5_tellText wsX3_copy := goodIn_r _ [8, 9, 10, 11, 12, 13, 14, 15, 16, 17, 18, 19, 7, 20, 21, 22, 23, 24, 87, 88, 89, 90, 91, 92, 93, 94] (by decide +kernel) (by decide +kernel)
set_option maxRecDepth 20000 in
theorem gX5_tellText_X3_copy : GoodIn wsX5_tellText (wsV RX5 168 RX3 yX3_copy wsX3_copy) := goodIn_app (goodIn_of _ (by decide +kernel)) ggX5_tellText_X3_copy
set_option maxRecDepth 20000 in
theorem ggX5_tellText_X2_endOfStatement : GoodIn wsX5_tellText wsX2_endOfStatement := goodIn_r _ [29, 30, 31, 32, 28, 33, 34, 35, 36, 37, 38, 39, 40, 41, 42, 43, 44, 45, 46, 85, 86] (by decide +kernel) (by decide +kernel)
set_option maxRecDepth 20000 in
theorem gX5_tellText_X2_endOfStatement : GoodIn wsX5_tellText (wsV RX5 178 RX2 yX2_endOfStatement wsX2_endOfStatement) := goodIn_app (goodIn_of _ (by decide +kernel)) ggX5_tellText_X2_endOfStatement
set_option maxRecDepth 20000 in
theorem ggX5_tellText_X3_take : GoodIn wsX5_tellText wsX3_take := goodIn_r _ [50, 51, 31, 32, 28, 33, 34, 35, 52, 37, 38, 39, 30, 53, 54, 55, 56, 57, 58, 59, 7, 60, 9, 10, 61, 62, 63, 64, 13, 12, 11, 65, 66, 67, 68, 69, 70, 71, 72, 73, 74, 14, 15, 16, 85, 86, 87, 88, 89, 90, 91, 92, 93, 94] (by decide +kernel) (by decide +kernel)
set_option maxRecDepth 20000 in
theorem gX5_tellText_X3_take : GoodIn wsX5_tellText (wsV RX5 181 RX3 yX3_take wsX3_take) := goodIn_app (goodIn_of _ (by decide +kernel)) ggX5_tellText_X3_take
theorem dX5_tellText_0 : decode cX5_tellText 0 = .ok (.aload_n 0, 1) := by decide +kernel
theorem dX5_tellText_1 : decode cX5_tellText 1 = .ok (.getfield 16, 3) := by decide +kernel
theorem dX5_tellText_4 : decode cX5_tellText 4 = .ok (.aload_n 0, 1) := by decide +kernel
theorem dX5_tellText_5 : decode cX5_tellText 5 = .ok (.getfield 10, 3) := by decide +kernel
theorem dX5_tellText_8 : decode cX5_tellText 8 = .ok (.invokevirtual 168, 3) := by decide +kernel
theorem dX5_tellText_11 : decode cX5_tellText 11 = .ok (.iconst 0, 1) := by decide +kernel
theorem dX5_tellText_12 : decode cX5_tellText 12 = .ok (.istore_n 1, 1) := by decide +kernel
theorem dX5_tellText_13 : decode cX5_tellText 13 = .ok (.iconst 0, 1) := by decide +kernel
theorem dX5_tellText_14 : decode cX5_tellText 14 = .ok (.istore_n 2, 1) := by decide +kernel
theorem dX5_tellText_15 : decode cX5_tellText 15 = .ok (.iload_n 1, 1) := by decide +kernel
theorem dX5_tellText_16 : decode cX5_tellText 16 = .ok (.aload_n 0, 1) := by decide +kernel
theorem dX5_tellText_17 : decode cX5_tellText 17 = .ok (.getfield 25, 3) := by decide +kernel
theorem dX5_tellText_20 : decode cX5_tellText 20 = .ok (.getfield 53, 3) := by decide +kernel
theorem dX5_tellText_23 : decode cX5_tellText 23 = .ok (.if_icmp .ge 48, 3) := by decide +kernel
theorem dX5_tellText_26 : decode cX5_tellText 26 = .ok (.iload_n 2, 1) := by decide +kernel
theorem dX5_tellText_27 : decode cX5_tellText 27 = .ok (.bipush 64, 2) := by decide +kernel
theorem dX5_tellText_29 : decode cX5_tellText 29 = .ok (.if_icmp .ge 42, 3) := by decide +kernel
theorem dX5_tellText_32 : decode cX5_tellText 32 = .ok (.aload_n 0, 1) := by decide +kernel
theorem dX5_tellText_33 : decode cX5_tellText 33 = .ok (.getfield 25, 3) := by decide +kernel
theorem dX5_tellText_36 : decode cX5_tellText 36 = .ok (.iload_n 1, 1) := by decide +kernel
theorem dX5_tellText_37 : decode cX5_tellText 37 = .ok (.invokevirtual 178, 3) := by decide +kernel
theorem dX5_tellText_40 : decode cX5_tellText 40 = .ok (.istore_n 3, 1) := by decide +kernel
theorem dX5_tellText_41 : decode cX5_tellText 41 = .ok (.aload_n 0, 1) := by decide +kernel
theorem dX5_tellText_42 : decode cX5_tellText 42 = .ok (.getfield 16, 3) := by decide +kernel
theorem dX5_tellText_45 : decode cX5_tellText 45 = .ok (.aload_n 0, 1) := by decide +kernel
theorem dX5_tellText_46 : decode cX5_tellText 46 = .ok (.getfield 25, 3) := by decide +kernel
theorem dX5_tellText_49 : decode cX5_tellText 49 = .ok (.iload_n 1, 1) := by decide +kernel
theorem dX5_tellText_50 : decode cX5_tellText 50 = .ok (.iload_n 3, 1) := by decide +kernel
theorem dX5_tellText_51 : decode cX5_tellText 51 = .ok (.invokevirtual 181, 3) := by decide +kernel
theorem dX5_tellText_54 : decode cX5_tellText 54 = .ok (.ifCond .ne 9, 3) := by decide +kernel
theorem dX5_tellText_57 : decode cX5_tellText 57 = .ok (.sipush (-2000), 3) := by decide +kernel
theorem dX5_tellText_60 : decode cX5_tellText 60 = .ok (.iload_n 1, 1) := by decide +kernel
theorem dX5_tellText_61 : decode cX5_tellText 61 = .ok (.isub, 1) := by decide +kernel
theorem dX5_tellText_62 : decode cX5_tellText 62 = .ok (.ireturn, 1) := by decide +kernel
theorem dX5_tellText_63 : decode cX5_tellText 63 = .ok (.iload_n 3, 1) := by decide +kernel
theorem dX5_tellText_64 : decode cX5_tellText 64 = .ok (.istore_n 1, 1) := by decide +kernel
theorem dX5_tellText_65 : decode cX5_tellText 65 = .ok (.iinc 2 1, 3) := by decide +kernel
theorem dX5_tellText_68 : decode cX5_tellText 68 = .ok (.goto (-53), 3) := by decide +kernel
theorem dX5_tellText_71 : decode cX5_tellText 71 = .ok (.aload_n 0, 1) := by decide +kernel
theorem dX5_tellText_72 : decode cX5_tellText 72 = .ok (.getfield 10, 3) := by decide +kernel
theorem dX5_tellText_75 : decode cX5_tellText 75 = .ok (.aload_n 0, 1) := by decide +kernel
theorem dX5_tellText_76 : decode cX5_tellText 76 = .ok (.getfield 16, 3) := by decide +kernel
theorem dX5_tellText_79 : decode cX5_tellText 79 = .ok (.invokevirtual 168, 3) := by decide +kernel
theorem dX5_tellText_82 : decode cX5_tellText 82 = .ok (.iload_n 2, 1) := by decide +kernel
theorem dX5_tellText_83 : decode cX5_tellText 83 = .ok (.ireturn, 1) := by decide +kernel
set_option maxRecDepth 20000 in
theorem ggX5_tallyNow_X5_tallyOf : GoodIn wsX5_tallyNow wsX5_tallyOf := goodIn_r _ [6, 7, 8, 1, 9, 10, 11, 12, 13, 14, 15, 16, 17, 18, 19, 20, 21, 22, 23, 24, 25, 26, 27, 28, 29, 30, 31, 32, 33, 34, 35, 36, 37, 38, 39, 40, 41, 42, 43, 44, 45, 46, 47, 48, 49, 50, 51, 52, 53, 54, 5, 55, 56, 57, 58, 59, 60, 61, 62, 63, 64, 65, 66, 67, 68, 69, 70, 71, 72, 73, 74, 75, 76, 77, 78, 79, 80, 81, 82, 83, 84, 85, 86, 87, 88, 89, 90, 91, 92, 93, 94, 95, 96, 97] (by decide +kernel) (by decide +kernel)
set_option maxRecDepth 20000 in
theorem gX5_tallyNow_X5_tallyOf : GoodIn wsX5_tallyNow (wsV RX5 185 RX5 yX5_tallyOf wsX5_tallyOf) := goodIn_app (goodIn_of _ (by decide +kernel)) ggX5_tallyNow_X5_tallyOf
theorem dX5_tallyNow_0 : decode cX5_tallyNow 0 = .ok (.aload_n 0, 1) := by decide +kernel
theorem dX5_tallyNow_1 : decode cX5_tallyNow 1 = .ok (.aload_n 0, 1) := by decide +kernel
theorem dX5_tallyNow_2 : decode cX5_tallyNow 2 = .ok (.getfield 10, 3) := by decide +kernel
theorem dX5_tallyNow_5 : decode cX5_tallyNow 5 = .ok (.getfield 68, 3) := by decide +kernel
theorem dX5_tallyNow_8 : decode cX5_tallyNow 8 = .ok (.invokevirtual 185, 3) := by decide +kernel
theorem dX5_tallyNow_11 : decode cX5_tallyNow 11 = .ok (.areturn, 1) := by decide +kernel
set_option maxRecDepth 20000 in
theorem ggX5_tallyOf_X1_retell : GoodIn wsX5_tallyOf wsX1_retell := goodIn_r _ [8, 9, 10, 11, 12, 13, 14, 15, 16, 17, 18, 19, 20, 21, 22, 23, 24, 25, 26, 27, 28, 29, 30, 31, 32, 33, 34, 35, 36, 37, 38, 39, 40, 41, 42, 43, 7, 44, 45, 46, 47, 48, 49, 50, 51, 52, 53, 54, 55, 56, 57, 58, 59, 60, 61, 62, 63, 64, 65, 84, 85, 86, 87, 88, 89, 90, 91, 92, 93] (by decide +kernel) (by decide +kernel)
set_option maxRecDepth 20000 in
theorem gX5_tallyOf_X1_retell : GoodIn wsX5_tallyOf (wsV RX5 128 RX1 yX1_retell wsX1_retell) := goodIn_app (goodIn_of _ (by decide +kernel)) ggX5_tallyOf_X1_retell
theorem dX5_tallyOf_0 : decode cX5_tallyOf 0 = .ok (.iload_n 1, 1) := by decide +kernel
theorem dX5_tallyOf_1 : decode cX5_tallyOf 1 = .ok (.ifCond .lt 21, 3) := by decide +kernel
theorem dX5_tallyOf_4 : decode cX5_tallyOf 4 = .ok (.iload_n 1, 1) := by decide +kernel
theorem dX5_tallyOf_5 : decode cX5_tallyOf 5 = .ok (.aload_n 0, 1) := by decide +kernel
theorem dX5_tallyOf_6 : decode cX5_tallyOf 6 = .ok (.getfield 35, 3) := by decide +kernel
theorem dX5_tallyOf_9 : decode cX5_tallyOf 9 = .ok (.arraylength, 1) := by decide +kernel
theorem dX5_tallyOf_10 : decode cX5_tallyOf 10 = .ok (.if_icmp .ge 12, 3) := by decide +kernel
theorem dX5_tallyOf_13 : decode cX5_tallyOf 13 = .ok (.aload_n 0, 1) := by decide +kernel
theorem dX5_tallyOf_14 : decode cX5_tallyOf 14 = .ok (.getfield 35, 3) := by decide +kernel
theorem dX5_tallyOf_17 : decode cX5_tallyOf 17 = .ok (.iload_n 1, 1) := by decide +kernel
theorem dX5_tallyOf_18 : decode cX5_tallyOf 18 = .ok (.aaload, 1) := by decide +kernel
theorem dX5_tallyOf_19 : decode cX5_tallyOf 19 = .ok (.goto 4, 3) := by decide +kernel
theorem dX5_tallyOf_22 : decode cX5_tallyOf 22 = .ok (.aconst_null, 1) := by decide +kernel
theorem dX5_tallyOf_23 : decode cX5_tallyOf 23 = .ok (.astore_n 2, 1) := by decide +kernel
theorem dX5_tallyOf_24 : decode cX5_tallyOf 24 = .ok (.aload_n 2, 1) := by decide +kernel
theorem dX5_tallyOf_25 : decode cX5_tallyOf 25 = .ok (.ifnonnull 8, 3) := by decide +kernel
theorem dX5_tallyOf_28 : decode cX5_tallyOf 28 = .ok (.aload_n 0, 1) := by decide +kernel
theorem dX5_tallyOf_29 : decode cX5_tallyOf 29 = .ok (.getfield 45, 3) := by decide +kernel
theorem dX5_tallyOf_32 : decode cX5_tallyOf 32 = .ok (.astore_n 2, 1) := by decide +kernel
theorem dX5_tallyOf_33 : decode cX5_tallyOf 33 = .ok (.aload_n 2, 1) := by decide +kernel
theorem dX5_tallyOf_34 : decode cX5_tallyOf 34 = .ok (.iload_n 1, 1) := by decide +kernel
theorem dX5_tallyOf_35 : decode cX5_tallyOf 35 = .ok (.aload_n 0, 1) := by decide +kernel
theorem dX5_tallyOf_36 : decode cX5_tallyOf 36 = .ok (.getfield 10, 3) := by decide +kernel
theorem dX5_tallyOf_39 : decode cX5_tallyOf 39 = .ok (.getfield 71, 3) := by decide +kernel
theorem dX5_tallyOf_42 : decode cX5_tallyOf 42 = .ok (.aload_n 0, 1) := by decide +kernel
theorem dX5_tallyOf_43 : decode cX5_tallyOf 43 = .ok (.getfield 10, 3) := by decide +kernel
theorem dX5_tallyOf_46 : decode cX5_tallyOf 46 = .ok (.getfield 189, 3) := by decide +kernel
theorem dX5_tallyOf_49 : decode cX5_tallyOf 49 = .ok (.aload_n 0, 1) := by decide +kernel
theorem dX5_tallyOf_50 : decode cX5_tallyOf 50 = .ok (.getfield 10, 3) := by decide +kernel
theorem dX5_tallyOf_53 : decode cX5_tallyOf 53 = .ok (.getfield 122, 3) := by decide +kernel
theorem dX5_tallyOf_56 : decode cX5_tallyOf 56 = .ok (.aload_n 0, 1) := by decide +kernel
theorem dX5_tallyOf_57 : decode cX5_tallyOf 57 = .ok (.getfield 10, 3) := by decide +kernel
theorem dX5_tallyOf_60 : decode cX5_tallyOf 60 = .ok (.getfield 125, 3) := by decide +kernel
theorem dX5_tallyOf_63 : decode cX5_tallyOf 63 = .ok (.invokevirtual 128, 3) := by decide +kernel
theorem dX5_tallyOf_66 : decode cX5_tallyOf 66 = .ok (.aload_n 2, 1) := by decide +kernel
theorem dX5_tallyOf_67 : decode cX5_tallyOf 67 = .ok (.areturn, 1) := by decide +kernel
set_option maxRecDepth 20000 in
theorem ggX5_compareAll_X5_tallyOf : GoodIn wsX5_compareAll wsX5_tallyOf := goodIn_r _ [5, 6, 7, 8, 9, 10, 11, 12, 13, 14, 15, 16, 17, 18, 19, 20, 21, 22, 23, 24, 25, 26, 27, 28, 29, 30, 31, 32, 33, 34, 35, 36, 37, 38, 39, 40, 41, 42, 43, 44, 45, 46, 47, 48, 49, 50, 51, 52, 53, 54, 4, 55, 56, 57, 58, 59, 60, 61, 62, 63, 64, 65, 66, 67, 68, 69, 84, 85, 86, 87, 88, 89, 90, 91, 92, 93, 94, 95, 96, 97, 98, 99, 100, 101, 102, 103, 104, 105, 106, 107, 108, 109, 110, 111] (by decide +kernel) (by decide +kernel)
set_option maxRecDepth 20000 in
theorem gX5_compareAll_X5_tallyOf : GoodIn wsX5_compareAll (wsV RX5 185 RX5 yX5_tallyOf wsX5_tallyOf) := goodIn_app (goodIn_of _ (by decide +kernel)) ggX5_compareAll_X5_tallyOf
set_option maxRecDepth 20000 in
theorem ggX5_compareAll_X1_sum : GoodIn wsX5_compareAll wsX1_sum := goodIn_r _ [73, 16, 74, 75, 76, 12, 77, 19, 50, 51, 52, 24, 53, 26, 43, 44, 45, 78, 79, 80, 102, 103, 104, 105, 106, 107, 108, 109] (by decide +kernel) (by decide +kernel)
set_option maxRecDepth 20000 in
theorem gX5_compareAll_X1_sum : GoodIn wsX5_compareAll (wsV RX5 103 RX1 yX1_sum wsX1_sum) := goodIn_app (goodIn_of _ (by decide +kernel)) ggX5_compareAll_X1_sum
set_option maxRecDepth 20000 in
theorem ggX5_compareAll_X5_compareFractions : GoodIn wsX5_compareAll wsX5_compareFractions := goodIn_r _ [83] (by decide +kernel) (by decide +kernel)
set_option maxRecDepth 20000 in
theorem gX5_compareAll_X5_compareFractions : GoodIn wsX5_compareAll (va_wsS RX5 192 yX5_compareFractions wsX5_compareFractions) := goodIn_app (goodIn_of _ (by decide +kernel)) ggX5_compareAll_X5_compareFractions
theorem dX5_compareAll_0 : decode cX5_compareAll 0 = .ok (.aload_n 0, 1) := by decide +kernel
theorem dX5_compareAll_1 : decode cX5_compareAll 1 = .ok (.iload_n 1, 1) := by decide +kernel
theorem dX5_compareAll_2 : decode cX5_compareAll 2 = .ok (.invokevirtual 185, 3) := by decide +kernel
theorem dX5_compareAll_5 : decode cX5_compareAll 5 = .ok (.astore_n 3, 1) := by decide +kernel
theorem dX5_compareAll_6 : decode cX5_compareAll 6 = .ok (.aload_n 0, 1) := by decide +kernel
theorem dX5_compareAll_7 : decode cX5_compareAll 7 = .ok (.iload_n 2, 1) := by decide +kernel
theorem dX5_compareAll_8 : decode cX5_compareAll 8 = .ok (.invokevirtual 185, 3) := by decide +kernel
theorem dX5_compareAll_11 : decode cX5_compareAll 11 = .ok (.astore 4, 2) := by decide +kernel
theorem dX5_compareAll_13 : decode cX5_compareAll 13 = .ok (.aload_n 3, 1) := by decide +kernel
theorem dX5_compareAll_14 : decode cX5_compareAll 14 = .ok (.iconst 1, 1) := by decide +kernel
theorem dX5_compareAll_15 : decode cX5_compareAll 15 = .ok (.iconst 0, 1) := by decide +kernel
theorem dX5_compareAll_16 : decode cX5_compareAll 16 = .ok (.invokevirtual 103, 3) := by decide +kernel
theorem dX5_compareAll_19 : decode cX5_compareAll 19 = .ok (.aload_n 3, 1) := by decide +kernel
theorem dX5_compareAll_20 : decode cX5_compareAll 20 = .ok (.iconst 0, 1) := by decide +kernel
theorem dX5_compareAll_21 : decode cX5_compareAll 21 = .ok (.iconst 0, 1) := by decide +kernel
theorem dX5_compareAll_22 : decode cX5_compareAll 22 = .ok (.invokevirtual 103, 3) := by decide +kernel
theorem dX5_compareAll_25 : decode cX5_compareAll 25 = .ok (.aload 4, 2) := by decide +kernel
theorem dX5_compareAll_27 : decode cX5_compareAll 27 = .ok (.iconst 1, 1) := by decide +kernel
theorem dX5_compareAll_28 : decode cX5_compareAll 28 = .ok (.iconst 0, 1) := by decide +kernel
theorem dX5_compareAll_29 : decode cX5_compareAll 29 = .ok (.invokevirtual 103, 3) := by decide +kernel
theorem dX5_compareAll_32 : decode cX5_compareAll 32 = .ok (.aload 4, 2) := by decide +kernel
theorem dX5_compareAll_34 : decode cX5_compareAll 34 = .ok (.iconst 0, 1) := by decide +kernel
theorem dX5_compareAll_35 : decode cX5_compareAll 35 = .ok (.iconst 0, 1) := by decide +kernel
theorem dX5_compareAll_36 : decode cX5_compareAll 36 = .ok (.invokevirtual 103, 3) := by decide +kernel
theorem dX5_compareAll_39 : decode cX5_compareAll 39 = .ok (.invokestatic 192, 3) := by decide +kernel
theorem dX5_compareAll_42 : decode cX5_compareAll 42 = .ok (.ireturn, 1) := by decide +kernel
set_option maxRecDepth 20000 in
theorem ggX5_lastInTwelfths_X3_stopPlace : GoodIn wsX5_lastInTwelfths wsX3_stopPlace := goodIn_r _ [8, 9, 10, 11, 12, 13, 45, 46, 47, 48, 49, 50, 51, 52] (by decide +kernel) (by decide +kernel)
set_option maxRecDepth 20000 in
theorem gX5_lastInTwelfths_X3_stopPlace : GoodIn wsX5_lastInTwelfths (wsV RX5 153 RX3 yX3_stopPlace wsX3_stopPlace) := goodIn_app (goodIn_of _ (by decide +kernel)) ggX5_lastInTwelfths_X3_stopPlace
set_option maxRecDepth 20000 in
theorem ggX5_lastInTwelfths_J6_bitCount_0f7a4 : GoodIn wsX5_lastInTwelfths wsJ6_bitCount_0f7a4 := goodIn_r _ [17, 18, 19, 20] (by decide +kernel) (by decide +kernel)
set_option maxRecDepth 20000 in
theorem gX5_lastInTwelfths_J6_bitCount_0f7a4 : GoodIn wsX5_lastInTwelfths (va_wsS RX5 196 yJ6_bitCount_0f7a4 wsJ6_bitCount_0f7a4) := goodIn_app (goodIn_of _ (by decide +kernel)) ggX5_lastInTwelfths_J6_bitCount_0f7a4
set_option maxRecDepth 20000 in
theorem ggX5_lastInTwelfths_X5_latestOnes : GoodIn wsX5_lastInTwelfths wsX5_latestOnes := goodIn_r _ [23] (by decide +kernel) (by decide +kernel)
set_option maxRecDepth 20000 in
theorem gX5_lastInTwelfths_X5_latestOnes : GoodIn wsX5_lastInTwelfths (va_wsS RX5 201 yX5_latestOnes wsX5_latestOnes) := goodIn_app (goodIn_of _ (by decide +kernel)) ggX5_lastInTwelfths_X5_latestOnes
set_option maxRecDepth 20000 in
theorem ggX5_lastInTwelfths_X5_chanceOfOne : GoodIn wsX5_lastInTwelfths wsX5_chanceOfOne := goodIn_r _ [26, 27, 28, 29, 30, 31, 32, 33] (by decide +kernel) (by decide +kernel)
set_option maxRecDepth 20000 in
theorem gX5_lastInTwelfths_X5_chanceOfOne : GoodIn wsX5_lastInTwelfths (va_wsS RX5 204 yX5_chanceOfOne wsX5_chanceOfOne) := goodIn_app (goodIn_of _ (by decide +kernel)) ggX5_lastInTwelfths_X5_chanceOfOne
set_option maxRecDepth 20000 in
theorem ggX5_lastInTwelfths_X5_lawStops : GoodIn wsX5_lastInTwelfths wsX5_lawStops := goodIn_r _ [13] (by decide +kernel) (by decide +kernel)
set_option maxRecDepth 20000 in
theorem gX5_lastInTwelfths_X5_lawStops : GoodIn wsX5_lastInTwelfths (va_wsS RX5 87 yX5_lawStops wsX5_lawStops) := goodIn_app (goodIn_of _ (by decide +kernel)) ggX5_lastInTwelfths_X5_lawStops
theorem dX5_lastInTwelfths_0 : decode cX5_lastInTwelfths 0 = .ok (.aload_n 0, 1) := by decide +kernel
theorem dX5_lastInTwelfths_1 : decode cX5_lastInTwelfths 1 = .ok (.getfield 10, 3) := by decide +kernel
theorem dX5_lastInTwelfths_4 : decode cX5_lastInTwelfths 4 = .ok (.aload_n 0, 1) := by decide +kernel
theorem dX5_lastInTwelfths_5 : decode cX5_lastInTwelfths 5 = .ok (.getfield 10, 3) := by decide +kernel
theorem dX5_lastInTwelfths_8 : decode cX5_lastInTwelfths 8 = .ok (.getfield 68, 3) := by decide +kernel
theorem dX5_lastInTwelfths_11 : decode cX5_lastInTwelfths 11 = .ok (.aload_n 0, 1) := by decide +kernel
theorem dX5_lastInTwelfths_12 : decode cX5_lastInTwelfths 12 = .ok (.getfield 132, 3) := by decide +kernel
theorem dX5_lastInTwelfths_15 : decode cX5_lastInTwelfths 15 = .ok (.aload_n 0, 1) := by decide +kernel
theorem dX5_lastInTwelfths_16 : decode cX5_lastInTwelfths 16 = .ok (.getfield 135, 3) := by decide +kernel
theorem dX5_lastInTwelfths_19 : decode cX5_lastInTwelfths 19 = .ok (.invokevirtual 153, 3) := by decide +kernel
theorem dX5_lastInTwelfths_22 : decode cX5_lastInTwelfths 22 = .ok (.aload_n 0, 1) := by decide +kernel
theorem dX5_lastInTwelfths_23 : decode cX5_lastInTwelfths 23 = .ok (.getfield 132, 3) := by decide +kernel
theorem dX5_lastInTwelfths_26 : decode cX5_lastInTwelfths 26 = .ok (.if_icmp .ge 5, 3) := by decide +kernel
theorem dX5_lastInTwelfths_29 : decode cX5_lastInTwelfths 29 = .ok (.iconst 0, 1) := by decide +kernel
theorem dX5_lastInTwelfths_30 : decode cX5_lastInTwelfths 30 = .ok (.ireturn, 1) := by decide +kernel
theorem dX5_lastInTwelfths_31 : decode cX5_lastInTwelfths 31 = .ok (.aload_n 0, 1) := by decide +kernel
theorem dX5_lastInTwelfths_32 : decode cX5_lastInTwelfths 32 = .ok (.getfield 132, 3) := by decide +kernel
theorem dX5_lastInTwelfths_35 : decode cX5_lastInTwelfths 35 = .ok (.iconst 1, 1) := by decide +kernel
theorem dX5_lastInTwelfths_36 : decode cX5_lastInTwelfths 36 = .ok (.iadd, 1) := by decide +kernel
theorem dX5_lastInTwelfths_37 : decode cX5_lastInTwelfths 37 = .ok (.aload_n 0, 1) := by decide +kernel
theorem dX5_lastInTwelfths_38 : decode cX5_lastInTwelfths 38 = .ok (.getfield 10, 3) := by decide +kernel
theorem dX5_lastInTwelfths_41 : decode cX5_lastInTwelfths 41 = .ok (.getfield 189, 3) := by decide +kernel
theorem dX5_lastInTwelfths_44 : decode cX5_lastInTwelfths 44 = .ok (.if_icmp .lt 6, 3) := by decide +kernel
theorem dX5_lastInTwelfths_47 : decode cX5_lastInTwelfths 47 = .ok (.bipush 12, 2) := by decide +kernel
theorem dX5_lastInTwelfths_49 : decode cX5_lastInTwelfths 49 = .ok (.ireturn, 1) := by decide +kernel
theorem dX5_lastInTwelfths_50 : decode cX5_lastInTwelfths 50 = .ok (.aload_n 0, 1) := by decide +kernel
theorem dX5_lastInTwelfths_51 : decode cX5_lastInTwelfths 51 = .ok (.getfield 135, 3) := by decide +kernel
theorem dX5_lastInTwelfths_54 : decode cX5_lastInTwelfths 54 = .ok (.invokestatic 196, 3) := by decide +kernel
theorem dX5_lastInTwelfths_57 : decode cX5_lastInTwelfths 57 = .ok (.istore_n 1, 1) := by decide +kernel
theorem dX5_lastInTwelfths_58 : decode cX5_lastInTwelfths 58 = .ok (.aload_n 0, 1) := by decide +kernel
theorem dX5_lastInTwelfths_59 : decode cX5_lastInTwelfths 59 = .ok (.getfield 132, 3) := by decide +kernel
theorem dX5_lastInTwelfths_62 : decode cX5_lastInTwelfths 62 = .ok (.iload_n 1, 1) := by decide +kernel
theorem dX5_lastInTwelfths_63 : decode cX5_lastInTwelfths 63 = .ok (.isub, 1) := by decide +kernel
theorem dX5_lastInTwelfths_64 : decode cX5_lastInTwelfths 64 = .ok (.istore_n 2, 1) := by decide +kernel
theorem dX5_lastInTwelfths_65 : decode cX5_lastInTwelfths 65 = .ok (.aload_n 0, 1) := by decide +kernel
theorem dX5_lastInTwelfths_66 : decode cX5_lastInTwelfths 66 = .ok (.getfield 132, 3) := by decide +kernel
theorem dX5_lastInTwelfths_69 : decode cX5_lastInTwelfths 69 = .ok (.aload_n 0, 1) := by decide +kernel
theorem dX5_lastInTwelfths_70 : decode cX5_lastInTwelfths 70 = .ok (.getfield 135, 3) := by decide +kernel
theorem dX5_lastInTwelfths_73 : decode cX5_lastInTwelfths 73 = .ok (.invokestatic 201, 3) := by decide +kernel
theorem dX5_lastInTwelfths_76 : decode cX5_lastInTwelfths 76 = .ok (.istore_n 3, 1) := by decide +kernel
theorem dX5_lastInTwelfths_77 : decode cX5_lastInTwelfths 77 = .ok (.aload_n 0, 1) := by decide +kernel
theorem dX5_lastInTwelfths_78 : decode cX5_lastInTwelfths 78 = .ok (.getfield 10, 3) := by decide +kernel
theorem dX5_lastInTwelfths_81 : decode cX5_lastInTwelfths 81 = .ok (.getfield 122, 3) := by decide +kernel
theorem dX5_lastInTwelfths_84 : decode cX5_lastInTwelfths 84 = .ok (.aload_n 0, 1) := by decide +kernel
theorem dX5_lastInTwelfths_85 : decode cX5_lastInTwelfths 85 = .ok (.getfield 10, 3) := by decide +kernel
theorem dX5_lastInTwelfths_88 : decode cX5_lastInTwelfths 88 = .ok (.getfield 125, 3) := by decide +kernel
theorem dX5_lastInTwelfths_91 : decode cX5_lastInTwelfths 91 = .ok (.aload_n 0, 1) := by decide +kernel
theorem dX5_lastInTwelfths_92 : decode cX5_lastInTwelfths 92 = .ok (.getfield 132, 3) := by decide +kernel
theorem dX5_lastInTwelfths_95 : decode cX5_lastInTwelfths 95 = .ok (.iload_n 3, 1) := by decide +kernel
theorem dX5_lastInTwelfths_96 : decode cX5_lastInTwelfths 96 = .ok (.invokestatic 204, 3) := by decide +kernel
theorem dX5_lastInTwelfths_99 : decode cX5_lastInTwelfths 99 = .ok (.istore 4, 2) := by decide +kernel
theorem dX5_lastInTwelfths_101 : decode cX5_lastInTwelfths 101 = .ok (.iconst 0, 1) := by decide +kernel
theorem dX5_lastInTwelfths_102 : decode cX5_lastInTwelfths 102 = .ok (.istore 5, 2) := by decide +kernel
theorem dX5_lastInTwelfths_104 : decode cX5_lastInTwelfths 104 = .ok (.aload_n 0, 1) := by decide +kernel
theorem dX5_lastInTwelfths_105 : decode cX5_lastInTwelfths 105 = .ok (.getfield 10, 3) := by decide +kernel
theorem dX5_lastInTwelfths_108 : decode cX5_lastInTwelfths 108 = .ok (.getfield 68, 3) := by decide +kernel
theorem dX5_lastInTwelfths_111 : decode cX5_lastInTwelfths 111 = .ok (.aload_n 0, 1) := by decide +kernel
theorem dX5_lastInTwelfths_112 : decode cX5_lastInTwelfths 112 = .ok (.getfield 10, 3) := by decide +kernel
theorem dX5_lastInTwelfths_115 : decode cX5_lastInTwelfths 115 = .ok (.getfield 71, 3) := by decide +kernel
theorem dX5_lastInTwelfths_118 : decode cX5_lastInTwelfths 118 = .ok (.iload_n 1, 1) := by decide +kernel
theorem dX5_lastInTwelfths_119 : decode cX5_lastInTwelfths 119 = .ok (.iconst 1, 1) := by decide +kernel
theorem dX5_lastInTwelfths_120 : decode cX5_lastInTwelfths 120 = .ok (.iadd, 1) := by decide +kernel
theorem dX5_lastInTwelfths_121 : decode cX5_lastInTwelfths 121 = .ok (.iload_n 2, 1) := by decide +kernel
theorem dX5_lastInTwelfths_122 : decode cX5_lastInTwelfths 122 = .ok (.iload_n 3, 1) := by decide +kernel
theorem dX5_lastInTwelfths_123 : decode cX5_lastInTwelfths 123 = .ok (.iconst 1, 1) := by decide +kernel
theorem dX5_lastInTwelfths_124 : decode cX5_lastInTwelfths 124 = .ok (.iadd, 1) := by decide +kernel
theorem dX5_lastInTwelfths_125 : decode cX5_lastInTwelfths 125 = .ok (.invokestatic 87, 3) := by decide +kernel
theorem dX5_lastInTwelfths_128 : decode cX5_lastInTwelfths 128 = .ok (.ifCond .eq 10, 3) := by decide +kernel
theorem dX5_lastInTwelfths_131 : decode cX5_lastInTwelfths 131 = .ok (.iload 5, 2) := by decide +kernel
theorem dX5_lastInTwelfths_133 : decode cX5_lastInTwelfths 133 = .ok (.iload 4, 2) := by decide +kernel
theorem dX5_lastInTwelfths_135 : decode cX5_lastInTwelfths 135 = .ok (.iadd, 1) := by decide +kernel
theorem dX5_lastInTwelfths_136 : decode cX5_lastInTwelfths 136 = .ok (.istore 5, 2) := by decide +kernel
theorem dX5_lastInTwelfths_138 : decode cX5_lastInTwelfths 138 = .ok (.aload_n 0, 1) := by decide +kernel
theorem dX5_lastInTwelfths_139 : decode cX5_lastInTwelfths 139 = .ok (.getfield 10, 3) := by decide +kernel
theorem dX5_lastInTwelfths_142 : decode cX5_lastInTwelfths 142 = .ok (.getfield 68, 3) := by decide +kernel
theorem dX5_lastInTwelfths_145 : decode cX5_lastInTwelfths 145 = .ok (.aload_n 0, 1) := by decide +kernel
theorem dX5_lastInTwelfths_146 : decode cX5_lastInTwelfths 146 = .ok (.getfield 10, 3) := by decide +kernel
theorem dX5_lastInTwelfths_149 : decode cX5_lastInTwelfths 149 = .ok (.getfield 71, 3) := by decide +kernel
theorem dX5_lastInTwelfths_152 : decode cX5_lastInTwelfths 152 = .ok (.iload_n 1, 1) := by decide +kernel
theorem dX5_lastInTwelfths_153 : decode cX5_lastInTwelfths 153 = .ok (.iload_n 2, 1) := by decide +kernel
theorem dX5_lastInTwelfths_154 : decode cX5_lastInTwelfths 154 = .ok (.iconst 1, 1) := by decide +kernel
theorem dX5_lastInTwelfths_155 : decode cX5_lastInTwelfths 155 = .ok (.iadd, 1) := by decide +kernel
theorem dX5_lastInTwelfths_156 : decode cX5_lastInTwelfths 156 = .ok (.iconst 0, 1) := by decide +kernel
theorem dX5_lastInTwelfths_157 : decode cX5_lastInTwelfths 157 = .ok (.invokestatic 87, 3) := by decide +kernel
theorem dX5_lastInTwelfths_160 : decode cX5_lastInTwelfths 160 = .ok (.ifCond .eq 13, 3) := by decide +kernel
theorem dX5_lastInTwelfths_163 : decode cX5_lastInTwelfths 163 = .ok (.iload 5, 2) := by decide +kernel
theorem dX5_lastInTwelfths_165 : decode cX5_lastInTwelfths 165 = .ok (.bipush 12, 2) := by decide +kernel
theorem dX5_lastInTwelfths_167 : decode cX5_lastInTwelfths 167 = .ok (.iload 4, 2) := by decide +kernel
theorem dX5_lastInTwelfths_169 : decode cX5_lastInTwelfths 169 = .ok (.isub, 1) := by decide +kernel
theorem dX5_lastInTwelfths_170 : decode cX5_lastInTwelfths 170 = .ok (.iadd, 1) := by decide +kernel
theorem dX5_lastInTwelfths_171 : decode cX5_lastInTwelfths 171 = .ok (.istore 5, 2) := by decide +kernel
theorem dX5_lastInTwelfths_173 : decode cX5_lastInTwelfths 173 = .ok (.iload 5, 2) := by decide +kernel
theorem dX5_lastInTwelfths_175 : decode cX5_lastInTwelfths 175 = .ok (.ireturn, 1) := by decide +kernel
set_option maxRecDepth 20000 in
theorem ggX5_countLots_X5_chanceOfOne : GoodIn wsX5_countLots wsX5_chanceOfOne := goodIn_r _ [8, 9, 10, 11, 12, 13, 14, 15] (by decide +kernel) (by decide +kernel)
set_option maxRecDepth 20000 in
theorem gX5_countLots_X5_chanceOfOne : GoodIn wsX5_countLots (va_wsS RX5 204 yX5_chanceOfOne wsX5_chanceOfOne) := goodIn_app (goodIn_of _ (by decide +kernel)) ggX5_countLots_X5_chanceOfOne
set_option maxRecDepth 20000 in
theorem ggX5_countLots_X5_lawStops : GoodIn wsX5_countLots wsX5_lawStops := goodIn_r _ [18] (by decide +kernel) (by decide +kernel)
set_option maxRecDepth 20000 in
theorem gX5_countLots_X5_lawStops : GoodIn wsX5_countLots (va_wsS RX5 87 yX5_lawStops wsX5_lawStops) := goodIn_app (goodIn_of _ (by decide +kernel)) ggX5_countLots_X5_lawStops
theorem dX5_countLots_0 : decode cX5_countLots 0 = .ok (.iload_n 2, 1) := by decide +kernel
theorem dX5_countLots_1 : decode cX5_countLots 1 = .ok (.istore 4, 2) := by decide +kernel
theorem dX5_countLots_3 : decode cX5_countLots 3 = .ok (.iconst 0, 1) := by decide +kernel
theorem dX5_countLots_4 : decode cX5_countLots 4 = .ok (.istore 5, 2) := by decide +kernel
theorem dX5_countLots_6 : decode cX5_countLots 6 = .ok (.iconst 0, 1) := by decide +kernel
theorem dX5_countLots_7 : decode cX5_countLots 7 = .ok (.istore 6, 2) := by decide +kernel
theorem dX5_countLots_9 : decode cX5_countLots 9 = .ok (.iload 6, 2) := by decide +kernel
theorem dX5_countLots_11 : decode cX5_countLots 11 = .ok (.iload_n 1, 1) := by decide +kernel
theorem dX5_countLots_12 : decode cX5_countLots 12 = .ok (.if_icmp .ge 179, 3) := by decide +kernel
theorem dX5_countLots_15 : decode cX5_countLots 15 = .ok (.iconst 0, 1) := by decide +kernel
theorem dX5_countLots_16 : decode cX5_countLots 16 = .ok (.istore 7, 2) := by decide +kernel
theorem dX5_countLots_18 : decode cX5_countLots 18 = .ok (.iconst 0, 1) := by decide +kernel
theorem dX5_countLots_19 : decode cX5_countLots 19 = .ok (.istore 8, 2) := by decide +kernel
theorem dX5_countLots_21 : decode cX5_countLots 21 = .ok (.iconst 0, 1) := by decide +kernel
theorem dX5_countLots_22 : decode cX5_countLots 22 = .ok (.istore 9, 2) := by decide +kernel
theorem dX5_countLots_24 : decode cX5_countLots 24 = .ok (.iconst 0, 1) := by decide +kernel
theorem dX5_countLots_25 : decode cX5_countLots 25 = .ok (.istore 10, 2) := by decide +kernel
theorem dX5_countLots_27 : decode cX5_countLots 27 = .ok (.iload 9, 2) := by decide +kernel
theorem dX5_countLots_29 : decode cX5_countLots 29 = .ok (.aload_n 0, 1) := by decide +kernel
theorem dX5_countLots_30 : decode cX5_countLots 30 = .ok (.getfield 10, 3) := by decide +kernel
theorem dX5_countLots_33 : decode cX5_countLots 33 = .ok (.getfield 189, 3) := by decide +kernel
theorem dX5_countLots_36 : decode cX5_countLots 36 = .ok (.if_icmp .ge 129, 3) := by decide +kernel
theorem dX5_countLots_39 : decode cX5_countLots 39 = .ok (.iload 10, 2) := by decide +kernel
theorem dX5_countLots_41 : decode cX5_countLots 41 = .ok (.ifCond .ne 124, 3) := by decide +kernel
theorem dX5_countLots_44 : decode cX5_countLots 44 = .ok (.iload 4, 2) := by decide +kernel
theorem dX5_countLots_46 : decode cX5_countLots 46 = .ok (.ldc 208, 2) := by decide +kernel
theorem dX5_countLots_48 : decode cX5_countLots 48 = .ok (.imul, 1) := by decide +kernel
theorem dX5_countLots_49 : decode cX5_countLots 49 = .ok (.ldc 209, 2) := by decide +kernel
theorem dX5_countLots_51 : decode cX5_countLots 51 = .ok (.iadd, 1) := by decide +kernel
theorem dX5_countLots_52 : decode cX5_countLots 52 = .ok (.istore 4, 2) := by decide +kernel
theorem dX5_countLots_54 : decode cX5_countLots 54 = .ok (.iload 4, 2) := by decide +kernel
theorem dX5_countLots_56 : decode cX5_countLots 56 = .ok (.ldc 210, 2) := by decide +kernel
theorem dX5_countLots_58 : decode cX5_countLots 58 = .ok (.iand, 1) := by decide +kernel
theorem dX5_countLots_59 : decode cX5_countLots 59 = .ok (.sipush 256, 3) := by decide +kernel
theorem dX5_countLots_62 : decode cX5_countLots 62 = .ok (.idiv, 1) := by decide +kernel
theorem dX5_countLots_63 : decode cX5_countLots 63 = .ok (.bipush 12, 2) := by decide +kernel
theorem dX5_countLots_65 : decode cX5_countLots 65 = .ok (.irem, 1) := by decide +kernel
theorem dX5_countLots_66 : decode cX5_countLots 66 = .ok (.istore 11, 2) := by decide +kernel
theorem dX5_countLots_68 : decode cX5_countLots 68 = .ok (.iload 11, 2) := by decide +kernel
theorem dX5_countLots_70 : decode cX5_countLots 70 = .ok (.aload_n 0, 1) := by decide +kernel
theorem dX5_countLots_71 : decode cX5_countLots 71 = .ok (.getfield 10, 3) := by decide +kernel
theorem dX5_countLots_74 : decode cX5_countLots 74 = .ok (.getfield 122, 3) := by decide +kernel
theorem dX5_countLots_77 : decode cX5_countLots 77 = .ok (.aload_n 0, 1) := by decide +kernel
theorem dX5_countLots_78 : decode cX5_countLots 78 = .ok (.getfield 10, 3) := by decide +kernel
theorem dX5_countLots_81 : decode cX5_countLots 81 = .ok (.getfield 125, 3) := by decide +kernel
theorem dX5_countLots_84 : decode cX5_countLots 84 = .ok (.iload 9, 2) := by decide +kernel
theorem dX5_countLots_86 : decode cX5_countLots 86 = .ok (.iload 8, 2) := by decide +kernel
theorem dX5_countLots_88 : decode cX5_countLots 88 = .ok (.invokestatic 204, 3) := by decide +kernel
theorem dX5_countLots_91 : decode cX5_countLots 91 = .ok (.if_icmp .ge 7, 3) := by decide +kernel
theorem dX5_countLots_94 : decode cX5_countLots 94 = .ok (.iconst 1, 1) := by decide +kernel
theorem dX5_countLots_95 : decode cX5_countLots 95 = .ok (.goto 4, 3) := by decide +kernel
theorem dX5_countLots_98 : decode cX5_countLots 98 = .ok (.iconst 0, 1) := by decide +kernel
theorem dX5_countLots_99 : decode cX5_countLots 99 = .ok (.istore 12, 2) := by decide +kernel
theorem dX5_countLots_101 : decode cX5_countLots 101 = .ok (.iinc 9 1, 3) := by decide +kernel
theorem dX5_countLots_104 : decode cX5_countLots 104 = .ok (.iload 7, 2) := by decide +kernel
theorem dX5_countLots_106 : decode cX5_countLots 106 = .ok (.iload 12, 2) := by decide +kernel
theorem dX5_countLots_108 : decode cX5_countLots 108 = .ok (.ifCond .eq 7, 3) := by decide +kernel
theorem dX5_countLots_111 : decode cX5_countLots 111 = .ok (.iconst 1, 1) := by decide +kernel
theorem dX5_countLots_112 : decode cX5_countLots 112 = .ok (.goto 4, 3) := by decide +kernel
theorem dX5_countLots_115 : decode cX5_countLots 115 = .ok (.iconst 0, 1) := by decide +kernel
theorem dX5_countLots_116 : decode cX5_countLots 116 = .ok (.iadd, 1) := by decide +kernel
theorem dX5_countLots_117 : decode cX5_countLots 117 = .ok (.istore 7, 2) := by decide +kernel
theorem dX5_countLots_119 : decode cX5_countLots 119 = .ok (.iload 12, 2) := by decide +kernel
theorem dX5_countLots_121 : decode cX5_countLots 121 = .ok (.ifCond .eq 10, 3) := by decide +kernel
theorem dX5_countLots_124 : decode cX5_countLots 124 = .ok (.iload 8, 2) := by decide +kernel
theorem dX5_countLots_126 : decode cX5_countLots 126 = .ok (.iconst 1, 1) := by decide +kernel
theorem dX5_countLots_127 : decode cX5_countLots 127 = .ok (.iadd, 1) := by decide +kernel
theorem dX5_countLots_128 : decode cX5_countLots 128 = .ok (.goto 4, 3) := by decide +kernel
theorem dX5_countLots_131 : decode cX5_countLots 131 = .ok (.iconst 0, 1) := by decide +kernel
theorem dX5_countLots_132 : decode cX5_countLots 132 = .ok (.istore 8, 2) := by decide +kernel
theorem dX5_countLots_134 : decode cX5_countLots 134 = .ok (.aload_n 0, 1) := by decide +kernel
theorem dX5_countLots_135 : decode cX5_countLots 135 = .ok (.getfield 10, 3) := by decide +kernel
theorem dX5_countLots_138 : decode cX5_countLots 138 = .ok (.getfield 68, 3) := by decide +kernel
theorem dX5_countLots_141 : decode cX5_countLots 141 = .ok (.aload_n 0, 1) := by decide +kernel
theorem dX5_countLots_142 : decode cX5_countLots 142 = .ok (.getfield 10, 3) := by decide +kernel
theorem dX5_countLots_145 : decode cX5_countLots 145 = .ok (.getfield 71, 3) := by decide +kernel
theorem dX5_countLots_148 : decode cX5_countLots 148 = .ok (.iload 7, 2) := by decide +kernel
theorem dX5_countLots_150 : decode cX5_countLots 150 = .ok (.iload 9, 2) := by decide +kernel
theorem dX5_countLots_152 : decode cX5_countLots 152 = .ok (.iload 7, 2) := by decide +kernel
theorem dX5_countLots_154 : decode cX5_countLots 154 = .ok (.isub, 1) := by decide +kernel
theorem dX5_countLots_155 : decode cX5_countLots 155 = .ok (.iload 8, 2) := by decide +kernel
theorem dX5_countLots_157 : decode cX5_countLots 157 = .ok (.invokestatic 87, 3) := by decide +kernel
theorem dX5_countLots_160 : decode cX5_countLots 160 = .ok (.istore 10, 2) := by decide +kernel
theorem dX5_countLots_162 : decode cX5_countLots 162 = .ok (.goto (-135), 3) := by decide +kernel
theorem dX5_countLots_165 : decode cX5_countLots 165 = .ok (.iload 5, 2) := by decide +kernel
theorem dX5_countLots_167 : decode cX5_countLots 167 = .ok (.iload_n 3, 1) := by decide +kernel
theorem dX5_countLots_168 : decode cX5_countLots 168 = .ok (.iconst 1, 1) := by decide +kernel
theorem dX5_countLots_169 : decode cX5_countLots 169 = .ok (.if_icmp .ne 8, 3) := by decide +kernel
theorem dX5_countLots_172 : decode cX5_countLots 172 = .ok (.iload 7, 2) := by decide +kernel
theorem dX5_countLots_174 : decode cX5_countLots 174 = .ok (.goto 8, 3) := by decide +kernel
theorem dX5_countLots_177 : decode cX5_countLots 177 = .ok (.iload 9, 2) := by decide +kernel
theorem dX5_countLots_179 : decode cX5_countLots 179 = .ok (.iload 7, 2) := by decide +kernel
theorem dX5_countLots_181 : decode cX5_countLots 181 = .ok (.isub, 1) := by decide +kernel
theorem dX5_countLots_182 : decode cX5_countLots 182 = .ok (.iadd, 1) := by decide +kernel
theorem dX5_countLots_183 : decode cX5_countLots 183 = .ok (.istore 5, 2) := by decide +kernel
theorem dX5_countLots_185 : decode cX5_countLots 185 = .ok (.iinc 6 1, 3) := by decide +kernel
theorem dX5_countLots_188 : decode cX5_countLots 188 = .ok (.goto (-179), 3) := by decide +kernel
theorem dX5_countLots_191 : decode cX5_countLots 191 = .ok (.iload 5, 2) := by decide +kernel
theorem dX5_countLots_193 : decode cX5_countLots 193 = .ok (.ireturn, 1) := by decide +kernel
theorem dX5_latestOnes_0 : decode cX5_latestOnes 0 = .ok (.iconst 0, 1) := by decide +kernel
theorem dX5_latestOnes_1 : decode cX5_latestOnes 1 = .ok (.istore_n 2, 1) := by decide +kernel
theorem dX5_latestOnes_2 : decode cX5_latestOnes 2 = .ok (.iconst 0, 1) := by decide +kernel
theorem dX5_latestOnes_3 : decode cX5_latestOnes 3 = .ok (.istore_n 3, 1) := by decide +kernel
theorem dX5_latestOnes_4 : decode cX5_latestOnes 4 = .ok (.iload_n 3, 1) := by decide +kernel
theorem dX5_latestOnes_5 : decode cX5_latestOnes 5 = .ok (.iload_n 0, 1) := by decide +kernel
theorem dX5_latestOnes_6 : decode cX5_latestOnes 6 = .ok (.if_icmp .ge 26, 3) := by decide +kernel
theorem dX5_latestOnes_9 : decode cX5_latestOnes 9 = .ok (.iload_n 1, 1) := by decide +kernel
theorem dX5_latestOnes_10 : decode cX5_latestOnes 10 = .ok (.iload_n 3, 1) := by decide +kernel
theorem dX5_latestOnes_11 : decode cX5_latestOnes 11 = .ok (.ishr, 1) := by decide +kernel
theorem dX5_latestOnes_12 : decode cX5_latestOnes 12 = .ok (.iconst 1, 1) := by decide +kernel
theorem dX5_latestOnes_13 : decode cX5_latestOnes 13 = .ok (.iand, 1) := by decide +kernel
theorem dX5_latestOnes_14 : decode cX5_latestOnes 14 = .ok (.iconst 1, 1) := by decide +kernel
theorem dX5_latestOnes_15 : decode cX5_latestOnes 15 = .ok (.if_icmp .ne 9, 3) := by decide +kernel
theorem dX5_latestOnes_18 : decode cX5_latestOnes 18 = .ok (.iload_n 2, 1) := by decide +kernel
theorem dX5_latestOnes_19 : decode cX5_latestOnes 19 = .ok (.iconst 1, 1) := by decide +kernel
theorem dX5_latestOnes_20 : decode cX5_latestOnes 20 = .ok (.iadd, 1) := by decide +kernel
theorem dX5_latestOnes_21 : decode cX5_latestOnes 21 = .ok (.goto 4, 3) := by decide +kernel
theorem dX5_latestOnes_24 : decode cX5_latestOnes 24 = .ok (.iconst 0, 1) := by decide +kernel
theorem dX5_latestOnes_25 : decode cX5_latestOnes 25 = .ok (.istore_n 2, 1) := by decide +kernel
theorem dX5_latestOnes_26 : decode cX5_latestOnes 26 = .ok (.iinc 3 1, 3) := by decide +kernel
theorem dX5_latestOnes_29 : decode cX5_latestOnes 29 = .ok (.goto (-25), 3) := by decide +kernel
theorem dX5_latestOnes_32 : decode cX5_latestOnes 32 = .ok (.iload_n 2, 1) := by decide +kernel
theorem dX5_latestOnes_33 : decode cX5_latestOnes 33 = .ok (.ireturn, 1) := by decide +kernel
theorem dX5_lawStops_0 : decode cX5_lawStops 0 = .ok (.iload_n 0, 1) := by decide +kernel
theorem dX5_lawStops_1 : decode cX5_lawStops 1 = .ok (.tableswitch 111 0 5 #[39, 50, 61, 74, 85, 97], 39) := by decide +kernel
theorem dX5_lawStops_40 : decode cX5_lawStops 40 = .ok (.iload 4, 2) := by decide +kernel
theorem dX5_lawStops_42 : decode cX5_lawStops 42 = .ok (.ifCond .le 7, 3) := by decide +kernel
theorem dX5_lawStops_45 : decode cX5_lawStops 45 = .ok (.iconst 1, 1) := by decide +kernel
theorem dX5_lawStops_46 : decode cX5_lawStops 46 = .ok (.goto 4, 3) := by decide +kernel
theorem dX5_lawStops_49 : decode cX5_lawStops 49 = .ok (.iconst 0, 1) := by decide +kernel
theorem dX5_lawStops_50 : decode cX5_lawStops 50 = .ok (.ireturn, 1) := by decide +kernel
theorem dX5_lawStops_51 : decode cX5_lawStops 51 = .ok (.iload_n 2, 1) := by decide +kernel
theorem dX5_lawStops_52 : decode cX5_lawStops 52 = .ok (.iload_n 1, 1) := by decide +kernel
theorem dX5_lawStops_53 : decode cX5_lawStops 53 = .ok (.if_icmp .lt 7, 3) := by decide +kernel
theorem dX5_lawStops_56 : decode cX5_lawStops 56 = .ok (.iconst 1, 1) := by decide +kernel
theorem dX5_lawStops_57 : decode cX5_lawStops 57 = .ok (.goto 4, 3) := by decide +kernel
theorem dX5_lawStops_60 : decode cX5_lawStops 60 = .ok (.iconst 0, 1) := by decide +kernel
theorem dX5_lawStops_61 : decode cX5_lawStops 61 = .ok (.ireturn, 1) := by decide +kernel
theorem dX5_lawStops_62 : decode cX5_lawStops 62 = .ok (.iload_n 2, 1) := by decide +kernel
theorem dX5_lawStops_63 : decode cX5_lawStops 63 = .ok (.iload_n 3, 1) := by decide +kernel
theorem dX5_lawStops_64 : decode cX5_lawStops 64 = .ok (.isub, 1) := by decide +kernel
theorem dX5_lawStops_65 : decode cX5_lawStops 65 = .ok (.iload_n 1, 1) := by decide +kernel
theorem dX5_lawStops_66 : decode cX5_lawStops 66 = .ok (.if_icmp .ne 7, 3) := by decide +kernel
theorem dX5_lawStops_69 : decode cX5_lawStops 69 = .ok (.iconst 1, 1) := by decide +kernel
theorem dX5_lawStops_70 : decode cX5_lawStops 70 = .ok (.goto 4, 3) := by decide +kernel
theorem dX5_lawStops_73 : decode cX5_lawStops 73 = .ok (.iconst 0, 1) := by decide +kernel
theorem dX5_lawStops_74 : decode cX5_lawStops 74 = .ok (.ireturn, 1) := by decide +kernel
theorem dX5_lawStops_75 : decode cX5_lawStops 75 = .ok (.iload_n 2, 1) := by decide +kernel
theorem dX5_lawStops_76 : decode cX5_lawStops 76 = .ok (.iload_n 3, 1) := by decide +kernel
theorem dX5_lawStops_77 : decode cX5_lawStops 77 = .ok (.if_icmp .ne 7, 3) := by decide +kernel
theorem dX5_lawStops_80 : decode cX5_lawStops 80 = .ok (.iconst 1, 1) := by decide +kernel
theorem dX5_lawStops_81 : decode cX5_lawStops 81 = .ok (.goto 4, 3) := by decide +kernel
theorem dX5_lawStops_84 : decode cX5_lawStops 84 = .ok (.iconst 0, 1) := by decide +kernel
theorem dX5_lawStops_85 : decode cX5_lawStops 85 = .ok (.ireturn, 1) := by decide +kernel
theorem dX5_lawStops_86 : decode cX5_lawStops 86 = .ok (.iload 4, 2) := by decide +kernel
theorem dX5_lawStops_88 : decode cX5_lawStops 88 = .ok (.iload_n 1, 1) := by decide +kernel
theorem dX5_lawStops_89 : decode cX5_lawStops 89 = .ok (.if_icmp .lt 7, 3) := by decide +kernel
theorem dX5_lawStops_92 : decode cX5_lawStops 92 = .ok (.iconst 1, 1) := by decide +kernel
theorem dX5_lawStops_93 : decode cX5_lawStops 93 = .ok (.goto 4, 3) := by decide +kernel
theorem dX5_lawStops_96 : decode cX5_lawStops 96 = .ok (.iconst 0, 1) := by decide +kernel
theorem dX5_lawStops_97 : decode cX5_lawStops 97 = .ok (.ireturn, 1) := by decide +kernel
theorem dX5_lawStops_98 : decode cX5_lawStops 98 = .ok (.iload_n 2, 1) := by decide +kernel
theorem dX5_lawStops_99 : decode cX5_lawStops 99 = .ok (.ifCond .le 11, 3) := by decide +kernel
theorem dX5_lawStops_102 : decode cX5_lawStops 102 = .ok (.iload_n 3, 1) := by decide +kernel
theorem dX5_lawStops_103 : decode cX5_lawStops 103 = .ok (.ifCond .le 7, 3) := by decide +kernel
theorem dX5_lawStops_106 : decode cX5_lawStops 106 = .ok (.iconst 1, 1) := by decide +kernel
theorem dX5_lawStops_107 : decode cX5_lawStops 107 = .ok (.goto 4, 3) := by decide +kernel
theorem dX5_lawStops_110 : decode cX5_lawStops 110 = .ok (.iconst 0, 1) := by decide +kernel
theorem dX5_lawStops_111 : decode cX5_lawStops 111 = .ok (.ireturn, 1) := by decide +kernel
theorem dX5_lawStops_112 : decode cX5_lawStops 112 = .ok (.iconst 1, 1) := by decide +kernel
theorem dX5_lawStops_113 : decode cX5_lawStops 113 = .ok (.ireturn, 1) := by decide +kernel
theorem dX5_chanceOfOne_0 : decode cX5_chanceOfOne 0 = .ok (.iload_n 2, 1) := by decide +kernel
theorem dX5_chanceOfOne_1 : decode cX5_chanceOfOne 1 = .ok (.ifCond .ne 5, 3) := by decide +kernel
theorem dX5_chanceOfOne_4 : decode cX5_chanceOfOne 4 = .ok (.iload_n 0, 1) := by decide +kernel
theorem dX5_chanceOfOne_5 : decode cX5_chanceOfOne 5 = .ok (.ireturn, 1) := by decide +kernel
theorem dX5_chanceOfOne_6 : decode cX5_chanceOfOne 6 = .ok (.iload_n 3, 1) := by decide +kernel
theorem dX5_chanceOfOne_7 : decode cX5_chanceOfOne 7 = .ok (.ifCond .le 9, 3) := by decide +kernel
theorem dX5_chanceOfOne_10 : decode cX5_chanceOfOne 10 = .ok (.iload_n 0, 1) := by decide +kernel
theorem dX5_chanceOfOne_11 : decode cX5_chanceOfOne 11 = .ok (.iload_n 1, 1) := by decide +kernel
theorem dX5_chanceOfOne_12 : decode cX5_chanceOfOne 12 = .ok (.iadd, 1) := by decide +kernel
theorem dX5_chanceOfOne_13 : decode cX5_chanceOfOne 13 = .ok (.goto 6, 3) := by decide +kernel
theorem dX5_chanceOfOne_16 : decode cX5_chanceOfOne 16 = .ok (.iload_n 0, 1) := by decide +kernel
theorem dX5_chanceOfOne_17 : decode cX5_chanceOfOne 17 = .ok (.iload_n 1, 1) := by decide +kernel
theorem dX5_chanceOfOne_18 : decode cX5_chanceOfOne 18 = .ok (.isub, 1) := by decide +kernel
theorem dX5_chanceOfOne_19 : decode cX5_chanceOfOne 19 = .ok (.istore 4, 2) := by decide +kernel
theorem dX5_chanceOfOne_21 : decode cX5_chanceOfOne 21 = .ok (.iconst 0, 1) := by decide +kernel
theorem dX5_chanceOfOne_22 : decode cX5_chanceOfOne 22 = .ok (.bipush 12, 2) := by decide +kernel
theorem dX5_chanceOfOne_24 : decode cX5_chanceOfOne 24 = .ok (.iload 4, 2) := by decide +kernel
theorem dX5_chanceOfOne_26 : decode cX5_chanceOfOne 26 = .ok (.invokestatic 211, 3) := by decide +kernel
theorem dX5_chanceOfOne_29 : decode cX5_chanceOfOne 29 = .ok (.invokestatic 216, 3) := by decide +kernel
theorem dX5_chanceOfOne_32 : decode cX5_chanceOfOne 32 = .ok (.ireturn, 1) := by decide +kernel
set_option maxRecDepth 20000 in
theorem ggX5_fraction_X5_greatestDivisor : GoodIn wsX5_fraction wsX5_greatestDivisor := goodIn_r _ [4] (by decide +kernel) (by decide +kernel)
set_option maxRecDepth 20000 in
theorem gX5_fraction_X5_greatestDivisor : GoodIn wsX5_fraction (va_wsS RX5 219 yX5_greatestDivisor wsX5_greatestDivisor) := goodIn_app (goodIn_of _ (by decide +kernel)) ggX5_fraction_X5_greatestDivisor
theorem dX5_fraction_0 : decode cX5_fraction 0 = .ok (.lload_n 0, 1) := by decide +kernel
theorem dX5_fraction_1 : decode cX5_fraction 1 = .ok (.lload_n 2, 1) := by decide +kernel
theorem dX5_fraction_2 : decode cX5_fraction 2 = .ok (.invokestatic 219, 3) := by decide +kernel
theorem dX5_fraction_5 : decode cX5_fraction 5 = .ok (.lstore 5, 2) := by decide +kernel
theorem dX5_fraction_7 : decode cX5_fraction 7 = .ok (.lload_n 0, 1) := by decide +kernel
theorem dX5_fraction_8 : decode cX5_fraction 8 = .ok (.lconst 0, 1) := by decide +kernel
theorem dX5_fraction_9 : decode cX5_fraction 9 = .ok (.lcmp, 1) := by decide +kernel
theorem dX5_fraction_10 : decode cX5_fraction 10 = .ok (.ifCond .eq 16, 3) := by decide +kernel
theorem dX5_fraction_13 : decode cX5_fraction 13 = .ok (.lload_n 2, 1) := by decide +kernel
theorem dX5_fraction_14 : decode cX5_fraction 14 = .ok (.lconst 0, 1) := by decide +kernel
theorem dX5_fraction_15 : decode cX5_fraction 15 = .ok (.lcmp, 1) := by decide +kernel
theorem dX5_fraction_16 : decode cX5_fraction 16 = .ok (.ifCond .eq 10, 3) := by decide +kernel
theorem dX5_fraction_19 : decode cX5_fraction 19 = .ok (.lload 5, 2) := by decide +kernel
theorem dX5_fraction_21 : decode cX5_fraction 21 = .ok (.lconst 0, 1) := by decide +kernel
theorem dX5_fraction_22 : decode cX5_fraction 22 = .ok (.lcmp, 1) := by decide +kernel
theorem dX5_fraction_23 : decode cX5_fraction 23 = .ok (.ifCond .ne 14, 3) := by decide +kernel
theorem dX5_fraction_26 : decode cX5_fraction 26 = .ok (.iload 4, 2) := by decide +kernel
theorem dX5_fraction_28 : decode cX5_fraction 28 = .ok (.ifCond .ne 7, 3) := by decide +kernel
theorem dX5_fraction_31 : decode cX5_fraction 31 = .ok (.lconst 0, 1) := by decide +kernel
theorem dX5_fraction_32 : decode cX5_fraction 32 = .ok (.goto 4, 3) := by decide +kernel
theorem dX5_fraction_35 : decode cX5_fraction 35 = .ok (.lconst 1, 1) := by decide +kernel
theorem dX5_fraction_36 : decode cX5_fraction 36 = .ok (.lreturn, 1) := by decide +kernel
theorem dX5_fraction_37 : decode cX5_fraction 37 = .ok (.iload 4, 2) := by decide +kernel
theorem dX5_fraction_39 : decode cX5_fraction 39 = .ok (.ifCond .ne 7, 3) := by decide +kernel
theorem dX5_fraction_42 : decode cX5_fraction 42 = .ok (.lload_n 0, 1) := by decide +kernel
theorem dX5_fraction_43 : decode cX5_fraction 43 = .ok (.goto 4, 3) := by decide +kernel
theorem dX5_fraction_46 : decode cX5_fraction 46 = .ok (.lload_n 2, 1) := by decide +kernel
theorem dX5_fraction_47 : decode cX5_fraction 47 = .ok (.lload 5, 2) := by decide +kernel
theorem dX5_fraction_49 : decode cX5_fraction 49 = .ok (.ldiv, 1) := by decide +kernel
theorem dX5_fraction_50 : decode cX5_fraction 50 = .ok (.lreturn, 1) := by decide +kernel
theorem dX5_greatestDivisor_0 : decode cX5_greatestDivisor 0 = .ok (.lload_n 0, 1) := by decide +kernel
theorem dX5_greatestDivisor_1 : decode cX5_greatestDivisor 1 = .ok (.lstore 4, 2) := by decide +kernel
theorem dX5_greatestDivisor_3 : decode cX5_greatestDivisor 3 = .ok (.lload_n 2, 1) := by decide +kernel
theorem dX5_greatestDivisor_4 : decode cX5_greatestDivisor 4 = .ok (.lstore 6, 2) := by decide +kernel
theorem dX5_greatestDivisor_6 : decode cX5_greatestDivisor 6 = .ok (.iconst 0, 1) := by decide +kernel
theorem dX5_greatestDivisor_7 : decode cX5_greatestDivisor 7 = .ok (.istore 8, 2) := by decide +kernel
theorem dX5_greatestDivisor_9 : decode cX5_greatestDivisor 9 = .ok (.iload 8, 2) := by decide +kernel
theorem dX5_greatestDivisor_11 : decode cX5_greatestDivisor 11 = .ok (.sipush 200, 3) := by decide +kernel
theorem dX5_greatestDivisor_14 : decode cX5_greatestDivisor 14 = .ok (.if_icmp .ge 31, 3) := by decide +kernel
theorem dX5_greatestDivisor_17 : decode cX5_greatestDivisor 17 = .ok (.lload 6, 2) := by decide +kernel
theorem dX5_greatestDivisor_19 : decode cX5_greatestDivisor 19 = .ok (.lconst 0, 1) := by decide +kernel
theorem dX5_greatestDivisor_20 : decode cX5_greatestDivisor 20 = .ok (.lcmp, 1) := by decide +kernel
theorem dX5_greatestDivisor_21 : decode cX5_greatestDivisor 21 = .ok (.ifCond .eq 24, 3) := by decide +kernel
theorem dX5_greatestDivisor_24 : decode cX5_greatestDivisor 24 = .ok (.lload 4, 2) := by decide +kernel
theorem dX5_greatestDivisor_26 : decode cX5_greatestDivisor 26 = .ok (.lload 6, 2) := by decide +kernel
theorem dX5_greatestDivisor_28 : decode cX5_greatestDivisor 28 = .ok (.lrem, 1) := by decide +kernel
theorem dX5_greatestDivisor_29 : decode cX5_greatestDivisor 29 = .ok (.lstore 9, 2) := by decide +kernel
theorem dX5_greatestDivisor_31 : decode cX5_greatestDivisor 31 = .ok (.lload 6, 2) := by decide +kernel
theorem dX5_greatestDivisor_33 : decode cX5_greatestDivisor 33 = .ok (.lstore 4, 2) := by decide +kernel
theorem dX5_greatestDivisor_35 : decode cX5_greatestDivisor 35 = .ok (.lload 9, 2) := by decide +kernel
theorem dX5_greatestDivisor_37 : decode cX5_greatestDivisor 37 = .ok (.lstore 6, 2) := by decide +kernel
theorem dX5_greatestDivisor_39 : decode cX5_greatestDivisor 39 = .ok (.iinc 8 1, 3) := by decide +kernel
theorem dX5_greatestDivisor_42 : decode cX5_greatestDivisor 42 = .ok (.goto (-33), 3) := by decide +kernel
theorem dX5_greatestDivisor_45 : decode cX5_greatestDivisor 45 = .ok (.lload 4, 2) := by decide +kernel
theorem dX5_greatestDivisor_47 : decode cX5_greatestDivisor 47 = .ok (.lreturn, 1) := by decide +kernel
theorem dX5_compareFractions_0 : decode cX5_compareFractions 0 = .ok (.lload_n 0, 1) := by decide +kernel
theorem dX5_compareFractions_1 : decode cX5_compareFractions 1 = .ok (.lstore 8, 2) := by decide +kernel
theorem dX5_compareFractions_3 : decode cX5_compareFractions 3 = .ok (.lload_n 2, 1) := by decide +kernel
theorem dX5_compareFractions_4 : decode cX5_compareFractions 4 = .ok (.lstore 10, 2) := by decide +kernel
theorem dX5_compareFractions_6 : decode cX5_compareFractions 6 = .ok (.lload 4, 2) := by decide +kernel
theorem dX5_compareFractions_8 : decode cX5_compareFractions 8 = .ok (.lstore 12, 2) := by decide +kernel
theorem dX5_compareFractions_10 : decode cX5_compareFractions 10 = .ok (.lload 6, 2) := by decide +kernel
theorem dX5_compareFractions_12 : decode cX5_compareFractions 12 = .ok (.lstore 14, 2) := by decide +kernel
theorem dX5_compareFractions_14 : decode cX5_compareFractions 14 = .ok (.iconst 0, 1) := by decide +kernel
theorem dX5_compareFractions_15 : decode cX5_compareFractions 15 = .ok (.istore 16, 2) := by decide +kernel
theorem dX5_compareFractions_17 : decode cX5_compareFractions 17 = .ok (.iload 16, 2) := by decide +kernel
theorem dX5_compareFractions_19 : decode cX5_compareFractions 19 = .ok (.sipush 200, 3) := by decide +kernel
theorem dX5_compareFractions_22 : decode cX5_compareFractions 22 = .ok (.if_icmp .ge 113, 3) := by decide +kernel
theorem dX5_compareFractions_25 : decode cX5_compareFractions 25 = .ok (.lload 10, 2) := by decide +kernel
theorem dX5_compareFractions_27 : decode cX5_compareFractions 27 = .ok (.lconst 0, 1) := by decide +kernel
theorem dX5_compareFractions_28 : decode cX5_compareFractions 28 = .ok (.lcmp, 1) := by decide +kernel
theorem dX5_compareFractions_29 : decode cX5_compareFractions 29 = .ok (.ifCond .eq 10, 3) := by decide +kernel
theorem dX5_compareFractions_32 : decode cX5_compareFractions 32 = .ok (.lload 14, 2) := by decide +kernel
theorem dX5_compareFractions_34 : decode cX5_compareFractions 34 = .ok (.lconst 0, 1) := by decide +kernel
theorem dX5_compareFractions_35 : decode cX5_compareFractions 35 = .ok (.lcmp, 1) := by decide +kernel
theorem dX5_compareFractions_36 : decode cX5_compareFractions 36 = .ok (.ifCond .ne 29, 3) := by decide +kernel
theorem dX5_compareFractions_39 : decode cX5_compareFractions 39 = .ok (.lload 10, 2) := by decide +kernel
theorem dX5_compareFractions_41 : decode cX5_compareFractions 41 = .ok (.lconst 0, 1) := by decide +kernel
theorem dX5_compareFractions_42 : decode cX5_compareFractions 42 = .ok (.lcmp, 1) := by decide +kernel
theorem dX5_compareFractions_43 : decode cX5_compareFractions 43 = .ok (.ifCond .ne 7, 3) := by decide +kernel
theorem dX5_compareFractions_46 : decode cX5_compareFractions 46 = .ok (.iconst 1, 1) := by decide +kernel
theorem dX5_compareFractions_47 : decode cX5_compareFractions 47 = .ok (.goto 4, 3) := by decide +kernel
theorem dX5_compareFractions_50 : decode cX5_compareFractions 50 = .ok (.iconst 0, 1) := by decide +kernel
theorem dX5_compareFractions_51 : decode cX5_compareFractions 51 = .ok (.lload 14, 2) := by decide +kernel
theorem dX5_compareFractions_53 : decode cX5_compareFractions 53 = .ok (.lconst 0, 1) := by decide +kernel
theorem dX5_compareFractions_54 : decode cX5_compareFractions 54 = .ok (.lcmp, 1) := by decide +kernel
theorem dX5_compareFractions_55 : decode cX5_compareFractions 55 = .ok (.ifCond .ne 7, 3) := by decide +kernel
theorem dX5_compareFractions_58 : decode cX5_compareFractions 58 = .ok (.iconst 1, 1) := by decide +kernel
theorem dX5_compareFractions_59 : decode cX5_compareFractions 59 = .ok (.goto 4, 3) := by decide +kernel
theorem dX5_compareFractions_62 : decode cX5_compareFractions 62 = .ok (.iconst 0, 1) := by decide +kernel
theorem dX5_compareFractions_63 : decode cX5_compareFractions 63 = .ok (.isub, 1) := by decide +kernel
theorem dX5_compareFractions_64 : decode cX5_compareFractions 64 = .ok (.ireturn, 1) := by decide +kernel
theorem dX5_compareFractions_65 : decode cX5_compareFractions 65 = .ok (.lload 8, 2) := by decide +kernel
theorem dX5_compareFractions_67 : decode cX5_compareFractions 67 = .ok (.lload 10, 2) := by decide +kernel
theorem dX5_compareFractions_69 : decode cX5_compareFractions 69 = .ok (.ldiv, 1) := by decide +kernel
theorem dX5_compareFractions_70 : decode cX5_compareFractions 70 = .ok (.lload 12, 2) := by decide +kernel
theorem dX5_compareFractions_72 : decode cX5_compareFractions 72 = .ok (.lload 14, 2) := by decide +kernel
theorem dX5_compareFractions_74 : decode cX5_compareFractions 74 = .ok (.ldiv, 1) := by decide +kernel
theorem dX5_compareFractions_75 : decode cX5_compareFractions 75 = .ok (.lcmp, 1) := by decide +kernel
theorem dX5_compareFractions_76 : decode cX5_compareFractions 76 = .ok (.ifCond .eq 23, 3) := by decide +kernel
theorem dX5_compareFractions_79 : decode cX5_compareFractions 79 = .ok (.lload 8, 2) := by decide +kernel
theorem dX5_compareFractions_81 : decode cX5_compareFractions 81 = .ok (.lload 10, 2) := by decide +kernel
theorem dX5_compareFractions_83 : decode cX5_compareFractions 83 = .ok (.ldiv, 1) := by decide +kernel
theorem dX5_compareFractions_84 : decode cX5_compareFractions 84 = .ok (.lload 12, 2) := by decide +kernel
theorem dX5_compareFractions_86 : decode cX5_compareFractions 86 = .ok (.lload 14, 2) := by decide +kernel
theorem dX5_compareFractions_88 : decode cX5_compareFractions 88 = .ok (.ldiv, 1) := by decide +kernel
theorem dX5_compareFractions_89 : decode cX5_compareFractions 89 = .ok (.lcmp, 1) := by decide +kernel
theorem dX5_compareFractions_90 : decode cX5_compareFractions 90 = .ok (.ifCond .le 7, 3) := by decide +kernel
theorem dX5_compareFractions_93 : decode cX5_compareFractions 93 = .ok (.iconst 1, 1) := by decide +kernel
theorem dX5_compareFractions_94 : decode cX5_compareFractions 94 = .ok (.goto 4, 3) := by decide +kernel
theorem dX5_compareFractions_97 : decode cX5_compareFractions 97 = .ok (.iconst (-1), 1) := by decide +kernel
theorem dX5_compareFractions_98 : decode cX5_compareFractions 98 = .ok (.ireturn, 1) := by decide +kernel
theorem dX5_compareFractions_99 : decode cX5_compareFractions 99 = .ok (.lload 8, 2) := by decide +kernel
theorem dX5_compareFractions_101 : decode cX5_compareFractions 101 = .ok (.lload 10, 2) := by decide +kernel
theorem dX5_compareFractions_103 : decode cX5_compareFractions 103 = .ok (.lrem, 1) := by decide +kernel
theorem dX5_compareFractions_104 : decode cX5_compareFractions 104 = .ok (.lstore 17, 2) := by decide +kernel
theorem dX5_compareFractions_106 : decode cX5_compareFractions 106 = .ok (.lload 12, 2) := by decide +kernel
theorem dX5_compareFractions_108 : decode cX5_compareFractions 108 = .ok (.lload 14, 2) := by decide +kernel
theorem dX5_compareFractions_110 : decode cX5_compareFractions 110 = .ok (.lrem, 1) := by decide +kernel
theorem dX5_compareFractions_111 : decode cX5_compareFractions 111 = .ok (.lstore 19, 2) := by decide +kernel
theorem dX5_compareFractions_113 : decode cX5_compareFractions 113 = .ok (.lload 14, 2) := by decide +kernel
theorem dX5_compareFractions_115 : decode cX5_compareFractions 115 = .ok (.lstore 8, 2) := by decide +kernel
theorem dX5_compareFractions_117 : decode cX5_compareFractions 117 = .ok (.lload 10, 2) := by decide +kernel
theorem dX5_compareFractions_119 : decode cX5_compareFractions 119 = .ok (.lstore 12, 2) := by decide +kernel
theorem dX5_compareFractions_121 : decode cX5_compareFractions 121 = .ok (.lload 19, 2) := by decide +kernel
theorem dX5_compareFractions_123 : decode cX5_compareFractions 123 = .ok (.lstore 10, 2) := by decide +kernel
theorem dX5_compareFractions_125 : decode cX5_compareFractions 125 = .ok (.lload 17, 2) := by decide +kernel
theorem dX5_compareFractions_127 : decode cX5_compareFractions 127 = .ok (.lstore 14, 2) := by decide +kernel
theorem dX5_compareFractions_129 : decode cX5_compareFractions 129 = .ok (.iinc 16 1, 3) := by decide +kernel
theorem dX5_compareFractions_132 : decode cX5_compareFractions 132 = .ok (.goto (-115), 3) := by decide +kernel
theorem dX5_compareFractions_135 : decode cX5_compareFractions 135 = .ok (.iconst 0, 1) := by decide +kernel
theorem dX5_compareFractions_136 : decode cX5_compareFractions 136 = .ok (.ireturn, 1) := by decide +kernel
end
section
theorem dJ6_bitCount_0f7a4_0 : decode cJ6_bitCount_0f7a4 0 = .ok (.iload_n 0, 1) := by decide +kernel
theorem dJ6_bitCount_0f7a4_1 : decode cJ6_bitCount_0f7a4 1 = .ok (.iload_n 0, 1) := by decide +kernel
theorem dJ6_bitCount_0f7a4_2 : decode cJ6_bitCount_0f7a4 2 = .ok (.iconst 1, 1) := by decide +kernel
theorem dJ6_bitCount_0f7a4_3 : decode cJ6_bitCount_0f7a4 3 = .ok (.iushr, 1) := by decide +kernel
theorem dJ6_bitCount_0f7a4_4 : decode cJ6_bitCount_0f7a4 4 = .ok (.ldc_w 265, 3) := by decide +kernel
theorem dJ6_bitCount_0f7a4_7 : decode cJ6_bitCount_0f7a4 7 = .ok (.iand, 1) := by decide +kernel
theorem dJ6_bitCount_0f7a4_8 : decode cJ6_bitCount_0f7a4 8 = .ok (.isub, 1) := by decide +kernel
theorem dJ6_bitCount_0f7a4_9 : decode cJ6_bitCount_0f7a4 9 = .ok (.istore_n 0, 1) := by decide +kernel
theorem dJ6_bitCount_0f7a4_10 : decode cJ6_bitCount_0f7a4 10 = .ok (.iload_n 0, 1) := by decide +kernel
theorem dJ6_bitCount_0f7a4_11 : decode cJ6_bitCount_0f7a4 11 = .ok (.ldc_w 266, 3) := by decide +kernel
theorem dJ6_bitCount_0f7a4_14 : decode cJ6_bitCount_0f7a4 14 = .ok (.iand, 1) := by decide +kernel
theorem dJ6_bitCount_0f7a4_15 : decode cJ6_bitCount_0f7a4 15 = .ok (.iload_n 0, 1) := by decide +kernel
theorem dJ6_bitCount_0f7a4_16 : decode cJ6_bitCount_0f7a4 16 = .ok (.iconst 2, 1) := by decide +kernel
theorem dJ6_bitCount_0f7a4_17 : decode cJ6_bitCount_0f7a4 17 = .ok (.iushr, 1) := by decide +kernel
theorem dJ6_bitCount_0f7a4_18 : decode cJ6_bitCount_0f7a4 18 = .ok (.ldc_w 266, 3) := by decide +kernel
theorem dJ6_bitCount_0f7a4_21 : decode cJ6_bitCount_0f7a4 21 = .ok (.iand, 1) := by decide +kernel
theorem dJ6_bitCount_0f7a4_22 : decode cJ6_bitCount_0f7a4 22 = .ok (.iadd, 1) := by decide +kernel
theorem dJ6_bitCount_0f7a4_23 : decode cJ6_bitCount_0f7a4 23 = .ok (.istore_n 0, 1) := by decide +kernel
theorem dJ6_bitCount_0f7a4_24 : decode cJ6_bitCount_0f7a4 24 = .ok (.iload_n 0, 1) := by decide +kernel
theorem dJ6_bitCount_0f7a4_25 : decode cJ6_bitCount_0f7a4 25 = .ok (.iload_n 0, 1) := by decide +kernel
theorem dJ6_bitCount_0f7a4_26 : decode cJ6_bitCount_0f7a4 26 = .ok (.iconst 4, 1) := by decide +kernel
theorem dJ6_bitCount_0f7a4_27 : decode cJ6_bitCount_0f7a4 27 = .ok (.iushr, 1) := by decide +kernel
theorem dJ6_bitCount_0f7a4_28 : decode cJ6_bitCount_0f7a4 28 = .ok (.iadd, 1) := by decide +kernel
theorem dJ6_bitCount_0f7a4_29 : decode cJ6_bitCount_0f7a4 29 = .ok (.ldc_w 267, 3) := by decide +kernel
theorem dJ6_bitCount_0f7a4_32 : decode cJ6_bitCount_0f7a4 32 = .ok (.iand, 1) := by decide +kernel
theorem dJ6_bitCount_0f7a4_33 : decode cJ6_bitCount_0f7a4 33 = .ok (.istore_n 0, 1) := by decide +kernel
theorem dJ6_bitCount_0f7a4_34 : decode cJ6_bitCount_0f7a4 34 = .ok (.iload_n 0, 1) := by decide +kernel
theorem dJ6_bitCount_0f7a4_35 : decode cJ6_bitCount_0f7a4 35 = .ok (.iload_n 0, 1) := by decide +kernel
theorem dJ6_bitCount_0f7a4_36 : decode cJ6_bitCount_0f7a4 36 = .ok (.bipush 8, 2) := by decide +kernel
theorem dJ6_bitCount_0f7a4_38 : decode cJ6_bitCount_0f7a4 38 = .ok (.iushr, 1) := by decide +kernel
theorem dJ6_bitCount_0f7a4_39 : decode cJ6_bitCount_0f7a4 39 = .ok (.iadd, 1) := by decide +kernel
theorem dJ6_bitCount_0f7a4_40 : decode cJ6_bitCount_0f7a4 40 = .ok (.istore_n 0, 1) := by decide +kernel
theorem dJ6_bitCount_0f7a4_41 : decode cJ6_bitCount_0f7a4 41 = .ok (.iload_n 0, 1) := by decide +kernel
theorem dJ6_bitCount_0f7a4_42 : decode cJ6_bitCount_0f7a4 42 = .ok (.iload_n 0, 1) := by decide +kernel
theorem dJ6_bitCount_0f7a4_43 : decode cJ6_bitCount_0f7a4 43 = .ok (.bipush 16, 2) := by decide +kernel
theorem dJ6_bitCount_0f7a4_45 : decode cJ6_bitCount_0f7a4 45 = .ok (.iushr, 1) := by decide +kernel
theorem dJ6_bitCount_0f7a4_46 : decode cJ6_bitCount_0f7a4 46 = .ok (.iadd, 1) := by decide +kernel
theorem dJ6_bitCount_0f7a4_47 : decode cJ6_bitCount_0f7a4 47 = .ok (.istore_n 0, 1) := by decide +kernel
theorem dJ6_bitCount_0f7a4_48 : decode cJ6_bitCount_0f7a4 48 = .ok (.iload_n 0, 1) := by decide +kernel
theorem dJ6_bitCount_0f7a4_49 : decode cJ6_bitCount_0f7a4 49 = .ok (.bipush 63, 2) := by decide +kernel
theorem dJ6_bitCount_0f7a4_51 : decode cJ6_bitCount_0f7a4 51 = .ok (.iand, 1) := by decide +kernel
theorem dJ6_bitCount_0f7a4_52 : decode cJ6_bitCount_0f7a4 52 = .ok (.ireturn, 1) := by decide +kernel
theorem dJ9_max_7cf53_0 : decode cJ9_max_7cf53 0 = .ok (.iload_n 0, 1) := by decide +kernel
theorem dJ9_max_7cf53_1 : decode cJ9_max_7cf53 1 = .ok (.iload_n 1, 1) := by decide +kernel
theorem dJ9_max_7cf53_2 : decode cJ9_max_7cf53 2 = .ok (.if_icmp .lt 7, 3) := by decide +kernel
theorem dJ9_max_7cf53_5 : decode cJ9_max_7cf53 5 = .ok (.iload_n 0, 1) := by decide +kernel
theorem dJ9_max_7cf53_6 : decode cJ9_max_7cf53 6 = .ok (.goto 4, 3) := by decide +kernel
theorem dJ9_max_7cf53_9 : decode cJ9_max_7cf53 9 = .ok (.iload_n 1, 1) := by decide +kernel
theorem dJ9_max_7cf53_10 : decode cJ9_max_7cf53 10 = .ok (.ireturn, 1) := by decide +kernel
theorem dJ9_min_7cf53_0 : decode cJ9_min_7cf53 0 = .ok (.iload_n 0, 1) := by decide +kernel
theorem dJ9_min_7cf53_1 : decode cJ9_min_7cf53 1 = .ok (.iload_n 1, 1) := by decide +kernel
theorem dJ9_min_7cf53_2 : decode cJ9_min_7cf53 2 = .ok (.if_icmp .gt 7, 3) := by decide +kernel
theorem dJ9_min_7cf53_5 : decode cJ9_min_7cf53 5 = .ok (.iload_n 0, 1) := by decide +kernel
theorem dJ9_min_7cf53_6 : decode cJ9_min_7cf53 6 = .ok (.goto 4, 3) := by decide +kernel
theorem dJ9_min_7cf53_9 : decode cJ9_min_7cf53 9 = .ok (.iload_n 1, 1) := by decide +kernel
theorem dJ9_min_7cf53_10 : decode cJ9_min_7cf53 10 = .ok (.ireturn, 1) := by decide +kernel
theorem dJ7_fill_d0a16_0 : decode cJ7_fill_d0a16 0 = .ok (.iconst 0, 1) := by decide +kernel
theorem dJ7_fill_d0a16_1 : decode cJ7_fill_d0a16 1 = .ok (.istore_n 3, 1) := by decide +kernel
theorem dJ7_fill_d0a16_2 : decode cJ7_fill_d0a16 2 = .ok (.aload_n 0, 1) := by decide +kernel
theorem dJ7_fill_d0a16_3 : decode cJ7_fill_d0a16 3 = .ok (.arraylength, 1) := by decide +kernel
theorem dJ7_fill_d0a16_4 : decode cJ7_fill_d0a16 4 = .ok (.istore 4, 2) := by decide +kernel
theorem dJ7_fill_d0a16_6 : decode cJ7_fill_d0a16 6 = .ok (.iload_n 3, 1) := by decide +kernel
theorem dJ7_fill_d0a16_7 : decode cJ7_fill_d0a16 7 = .ok (.iload 4, 2) := by decide +kernel
theorem dJ7_fill_d0a16_9 : decode cJ7_fill_d0a16 9 = .ok (.if_icmp .ge 13, 3) := by decide +kernel
theorem dJ7_fill_d0a16_12 : decode cJ7_fill_d0a16 12 = .ok (.aload_n 0, 1) := by decide +kernel
theorem dJ7_fill_d0a16_13 : decode cJ7_fill_d0a16 13 = .ok (.iload_n 3, 1) := by decide +kernel
theorem dJ7_fill_d0a16_14 : decode cJ7_fill_d0a16 14 = .ok (.lload_n 1, 1) := by decide +kernel
theorem dJ7_fill_d0a16_15 : decode cJ7_fill_d0a16 15 = .ok (.lastore, 1) := by decide +kernel
theorem dJ7_fill_d0a16_16 : decode cJ7_fill_d0a16 16 = .ok (.iinc 3 1, 3) := by decide +kernel
theorem dJ7_fill_d0a16_19 : decode cJ7_fill_d0a16 19 = .ok (.goto (-13), 3) := by decide +kernel
theorem dJ7_fill_d0a16_22 : decode cJ7_fill_d0a16 22 = .ok (.return_, 1) := by decide +kernel
end
section
/-! THE WORLDS OF THE CLASS AND OF THE REFERENCE: a memory of ints and longs by (number of the cell, place), the cells at addresses that are variables; contracts that give one memory for another -/
abbrev Mm : Type := (Nat → Nat → Int32) × (Nat → Nat → Int64) × Nat × Nat
def gI (σ : Mm) (i k : Nat) : Int32 := σ.1 i k
def gL (σ : Mm) (i k : Nat) : Int64 := σ.2.1 i k
def gH (σ : Mm) : Nat := σ.2.2.1
def gN (σ : Mm) : Nat := σ.2.2.2
def pI (σ : Mm) (i k : Nat) (v : Int32) : Mm := (fun a b => if a = i ∧ b = k then v else σ.1 a b, σ.2)
def pL (σ : Mm) (i k : Nat) (v : Int64) : Mm := (σ.1, fun a b => if a = i ∧ b = k then v else σ.2.1 a b, σ.2.2)
def pH (σ : Mm) (v : Nat) : Mm := (σ.1, σ.2.1, v, σ.2.2.2)
def pN (σ : Mm) (v : Nat) : Mm := (σ.1, σ.2.1, σ.2.2.1, v)
theorem gI_pI {σ : Mm} {i k a b : Nat} {v : Int32} : gI (pI σ i k v) a b = if a = i ∧ b = k then v else gI σ a b := rfl
theorem gL_pL {σ : Mm} {i k a b : Nat} {v : Int64} : gL (pL σ i k v) a b = if a = i ∧ b = k then v else gL σ a b := rfl
theorem gL_pI {σ : Mm} {i k a b : Nat} {v : Int32} : gL (pI σ i k v) a b = gL σ a b := rfl
theorem gI_pL {σ : Mm} {i k a b : Nat} {v : Int64} : gI (pL σ i k v) a b = gI σ a b := rfl
theorem gH_pI {σ : Mm} {i k : Nat} {v : Int32} : gH (pI σ i k v) = gH σ := rfl
theorem gN_pI {σ : Mm} {i k : Nat} {v : Int32} : gN (pI σ i k v) = gN σ := rfl
theorem gH_pL {σ : Mm} {i k : Nat} {v : Int64} : gH (pL σ i k v) = gH σ := rfl
theorem gN_pL {σ : Mm} {i k : Nat} {v : Int64} : gN (pL σ i k v) = gN σ := rfl
theorem gI_pH {σ : Mm} {v a b : Nat} : gI (pH σ v) a b = gI σ a b := rfl
theorem gL_pH {σ : Mm} {v a b : Nat} : gL (pH σ v) a b = gL σ a b := rfl
theorem gH_pH {σ : Mm} {v : Nat} : gH (pH σ v) = v := rfl
theorem gN_pH {σ : Mm} {v : Nat} : gN (pH σ v) = gN σ := rfl
theorem gI_pN {σ : Mm} {v a b : Nat} : gI (pN σ v) a b = gI σ a b := rfl
theorem gL_pN {σ : Mm} {v a b : Nat} : gL (pN σ v) a b = gL σ a b := rfl
theorem gH_pN {σ : Mm} {v : Nat} : gH (pN σ v) = gH σ := rfl
theorem gN_pN {σ : Mm} {v : Nat} : gN (pN σ v) = v := rfl
/-- class numbers and field places; addresses; the classes of the arrays of int, of long, of Tally; the address of UNITS -/
abbrev Cx : Type := va_G × (Nat → Nat) × (ClassId × ClassId × ClassId) × Nat
abbrev tyC (z : Cx) : List (ClassId × FieldType) := [(z.2.2.1.1, .int), (z.2.2.1.2.1, .long), (z.2.2.1.2.2, .object "TillOneOfSort$Tally")]
def wl (N : Nat) (ad : Nat → Nat) (ce : Nat → va_E) : va_W := (List.range N).map (fun i => (ad i, ce i))
theorem wl_get {N : Nat} {ad : Nat → Nat} {ce : Nat → va_E} {i : Nat} (h : i < N) : (wl N ad ce)[i]? = some (ad i, ce i) := by
  simp [wl, h]
theorem wl_at {N : Nat} {ad : Nat → Nat} {ce : Nat → va_E} {i : Nat} {e : va_E} (h : i < N) (he : ce i = e) : (wl N ad ce)[i]? = some (ad i, e) := by
  rw [wl_get h, he]
theorem wl_inv {N : Nat} {ad : Nat → Nat} {ce : Nat → va_E} {i : Nat} {q : Nat × va_E} (h : (wl N ad ce)[i]? = some q) : i < N ∧ q = (ad i, ce i) := by
  have hi : i < N := by
    have h1 := (List.getElem?_eq_some_iff.mp h).1
    simpa [wl] using h1
  rw [wl_get hi] at h
  exact ⟨hi, (Option.some.inj h).symm⟩
theorem wl_set {N : Nat} {ad : Nat → Nat} {ce ce' : Nat → va_E} {i : Nat} {e : va_E} (h : ∀ j, j < N → (if j = i then e else ce j) = ce' j) : (wl N ad ce).set i (ad i, e) = wl N ad ce' := by
  apply List.ext_getElem?
  intro j
  by_cases hj : j < N
  · rw [wl_get hj, ← h j hj, List.getElem?_set]
    by_cases hij : i = j
    · subst hij
      have : i < (wl N ad ce).length := by simpa [wl] using hj
      simp [this]
    · have : ¬ j = i := fun q => hij q.symm
      rw [if_neg hij, wl_get hj, if_neg this]
  · rw [List.getElem?_eq_none (by simpa [wl] using Nat.not_lt.mp hj), List.getElem?_eq_none (by simpa [wl] using Nat.not_lt.mp hj)]
def okC (N : Nat) (z : Cx) : Prop := ∀ i j, i < N → j < N → z.2.1 i = z.2.1 j → i = j
def aG (N : Nat) (z : Cx) : Nat → Prop := fun q => ∃ i, i < N ∧ q = z.2.1 i
theorem wl_D {N : Nat} {z : Cx} (h : okC N z) (ce : Nat → va_E) : va_D (aG N z) (wl N z.2.1 ce) := by
  refine ⟨fun i j p q hp hq hpq => ?_, fun k q hq => ?_⟩
  · obtain ⟨h1, rfl⟩ := wl_inv hp
    obtain ⟨h2, rfl⟩ := wl_inv hq
    exact h i j h1 h2 hpq
  · obtain ⟨h1, rfl⟩ := wl_inv hq
    exact ⟨k, h1, rfl⟩
/-! what the tables say of members that nest mates reach, and of UNITS -/
def nestL : List Cond := [.fieldLinkNest "TillOneOfSort" 122 "TillOneOfSort$Told" "chance" "I" "TillOneOfSort", .fieldLinkNest "TillOneOfSort" 125 "TillOneOfSort$Told" "lean" "I" "TillOneOfSort", .fieldLinkNest "TillOneOfSort" 157 "TillOneOfSort$Told" "families" "I" "TillOneOfSort", .fieldLinkNest "TillOneOfSort" 189 "TillOneOfSort$Told" "most" "I" "TillOneOfSort", .fieldLinkNest "TillOneOfSort" 53 "TillOneOfSort$Text" "length" "I" "TillOneOfSort", .fieldLinkNest "TillOneOfSort" 68 "TillOneOfSort$Told" "kind" "I" "TillOneOfSort", .fieldLinkNest "TillOneOfSort" 71 "TillOneOfSort$Told" "figure" "I" "TillOneOfSort", .fieldLinkNest "TillOneOfSort$Tally" 54 "TillOneOfSort$Walk" "here" "LTillOneOfSort$Cells;" "TillOneOfSort", .fieldLinkNest "TillOneOfSort$Tally" 65 "TillOneOfSort" "UNITS" "[J" "TillOneOfSort", .fieldLinkNest "TillOneOfSort$Tally" 77 "TillOneOfSort$Walk" "next" "LTillOneOfSort$Cells;" "TillOneOfSort", .methodLinkNest "TillOneOfSort$Tally" 61 yX5_lawStops "TillOneOfSort", .methodLinkNest "TillOneOfSort$Tally" 73 yX5_chanceOfOne "TillOneOfSort", .methodLinkNest "TillOneOfSort$Told" 73 yX5_lawStops "TillOneOfSort", .methodLinkNest "TillOneOfSort" 9 yX3_init "TillOneOfSort", .methodLinkNest "TillOneOfSort" 24 yX2_init "TillOneOfSort", .methodLinkNest "TillOneOfSort" 41 yX4_init "TillOneOfSort", .methodLinkNest "TillOneOfSort$Tally" 11 yX0_init "TillOneOfSort", .methodLinkNest "TillOneOfSort$Walk" 11 yX0_init "TillOneOfSort"]
def nestOK (U : State) : Prop := ∀ w ∈ nestL, va_Nw w U
theorem nestOK.warm {s U : State} (hW : s.WarmedH U.vm) (h : nestOK s) : nestOK U := by
  intro w hw
  have h1 := h w hw
  simp only [nestL, List.mem_cons, List.not_mem_nil, or_false] at hw
  rcases hw with rfl | rfl | rfl | rfl | rfl | rfl | rfl | rfl | rfl | rfl | rfl | rfl | rfl | rfl | rfl | rfl | rfl | rfl <;> first | exact va_Nw.warmF hW h1 | exact va_Nw.warmM hW h1
theorem nestOK.at {args : Array Value} {s : State} {w : Cond} (h : nestOK s) (hw : w ∈ nestL) (ho : w.onTables = true) : w.before args s = true := va_Nw.use ho (h w hw)
def un : List Int64 := [61917364224, 5159780352, 429981696, 35831808, 2985984, 248832, 20736, 1728, 144, 12, 1]
def uN (j : Nat) : Int64 := un.getD j 0
def en (z : Cx) (A : Nat → Prop) (U : State) : Prop := nestOK U ∧ va_Z "TillOneOfSort" "UNITS" "[J" (.ref z.2.2.2) A U U.heap ∧ va_T .long z.2.2.2 11 (fun j => .long (uN j)) A U U.heap
theorem en.go {z : Cx} {A : Nat → Prop} {s U : State} {H : Heap} {locs : List Loc} (h : en z A s) (hS : va_S A s.heap H locs) (hU : U.heap = H) (hW : s.WarmedH U.vm) : en z A U := by
  obtain ⟨h1, h2, h3⟩ := h
  refine ⟨h1.warm hW, ?_, ?_⟩
  · rw [hU]
    exact (h2.moved hW.alike).kept hS.2.1
  · rw [hU]
    exact (h3.moved hW.alike).kept hS.2.1
theorem nestOK.blind {a : Array Value} {U : State} {g : JFrame} {mk : MethodId} (h1 : nestOK U) : nestOK (U.calling g mk a) := by
    intro w hw
    have h4 := h1 w hw
    have ho : w.onTables = true := by
      simp only [nestL, List.mem_cons, List.not_mem_nil, or_false] at hw
      rcases hw with rfl | rfl | rfl | rfl | rfl | rfl | rfl | rfl | rfl | rfl | rfl | rfl | rfl | rfl | rfl | rfl | rfl | rfl <;> rfl
    exact va_tabs (u := U) (U := U.calling g mk a) ho rfl h4
theorem en.blind {z : Cx} {A : Nat → Prop} {a : Array Value} {U : State} {g : JFrame} {mk : MethodId} (h : en z A U) : en z A (U.calling g mk a) := by
  obtain ⟨h1, h2, h3⟩ := h
  refine ⟨h1.blind, ?_, ?_⟩
  · exact va_Z.moved (u := U) (U := U.calling g mk a) (Vm.Alike.refl U.vm) h2
  · exact va_T.moved (u := U) (U := U.calling g mk a) (Vm.Alike.refl U.vm) h3
/-! contracts -/
def pcG (N : Nat) (ce : Cx → Mm → Nat → va_E) (z : Cx) (σ : Mm) (as : List Value) : Array Value → State → Prop := va_Pc as (fun U => va_P z.1 vwCl (wl N z.2.1 (ce z σ)) U.heap ∧ va_K z.1 vwCl (tyC z) U ∧ en z (aG N z) U)
def qcG (N : Nat) (ce : Cx → Mm → Nat → va_E) (z : Cx) (σ : Mm) (rv : Option Value) : Array Value → State → Outcome → State → Prop := fun _ st oc t => oc = .returned rv ∧ va_P z.1 vwCl (wl N z.2.1 (ce z σ)) t.heap ∧ va_F (aG N z) st t
def qcS (rv : Option Value) : Array Value → State → Outcome → State → Prop := fun _ st oc t => oc = .returned rv ∧ t.heap = st.heap
abbrev KG (N : Nat) (ce : Cx → Mm → Nat → va_E) (l : Launch) (y : MethodName) (ws : List Cond) (fr lo : Nat) (as : List Value) (z : Cx) (σ σ' : Mm) (rv : Option Value) : Prop := Met l y ws ({ frames := fr, cells := 0, slots := 0, locals := lo }) (pcG N ce z σ as) (qcG N ce z σ' rv) 0 0 (aG N z)
abbrev KS (l : Launch) (y : MethodName) (ws : List Cond) (fr lo : Nat) (as : List Value) (rv : Option Value) : Prop := Met l y ws ({ frames := fr, cells := 0, slots := 0, locals := lo }) (va_Pc as (fun _ => True)) (qcS rv) 0 0 (fun _ => False)
theorem pcG.blind {N : Nat} {ce : Cx → Mm → Nat → va_E} {z : Cx} {σ : Mm} {as : List Value} : FrameBlind (pcG N ce z σ as) := by
  intro a U g mk q
  obtain ⟨h1, h2, h3, h4⟩ := q
  exact ⟨h1, h2, va_K.moved (u := U) (U := U.calling g mk a) (Vm.Alike.refl U.vm) h3, h4.blind⟩
theorem pcS.blind {as : List Value} : FrameBlind (va_Pc as (fun _ => True)) := fun _ _ _ _ q => q
section XB
variable {N : Nat} {ce : Cx → Mm → Nat → va_E} {z : Cx} {σ : Mm} {s : State} {H : Heap} {locs : List Loc} {A0 : Nat → Prop}
theorem pvG {C : String} {b : Addr} {As : List Value} (hK : va_K z.1 vwCl (tyC z) s) (hP : va_P z.1 vwCl (wl N z.2.1 (ce z σ)) H) (hE : en z (aG N z) s) (hS : va_S (aG N z) s.heap H locs) (hr : ∃ cell : Cell, H[b]? = some cell ∧ cell.vm.isStatics = false ∧ s.vm.findClass C = some cell.cls) : PreV s H C b (pcG N ce z σ (.ref b :: As)) As :=
  ⟨pcG.blind, hr, fun U hU hW => ⟨rfl, by rw [hU]; exact hP, hK.moved hW.alike, hE.go hS hU hW⟩⟩
theorem psG {As : List Value} (hK : va_K z.1 vwCl (tyC z) s) (hP : va_P z.1 vwCl (wl N z.2.1 (ce z σ)) H) (hE : en z (aG N z) s) (hS : va_S (aG N z) s.heap H locs) : PreS s H (pcG N ce z σ As) As :=
  ⟨pcG.blind, fun U hU hW => ⟨rfl, by rw [hU]; exact hP, hK.moved hW.alike, hE.go hS hU hW⟩⟩
theorem psS {As : List Value} : PreS s H (va_Pc As (fun _ => True)) As := ⟨pcS.blind, fun _ _ _ => ⟨rfl, trivial⟩⟩
end XB
section XC
variable {p : Program} {l : Launch} {e : Env} {R : Room} {s : State} {m : MethodId} {args : Array Value} {below : List Frame} {meth : Method} {c : Code} {H : Heap} {locs : List Loc} {cells slots : Nat} {Q : State → Prop}
variable {pc : Nat} {ls : Array Slot} {rest st0 : List Value} {a : Array Value} {N : Nat} {ce : Cx → Mm → Nat → va_E} {z : Cx} {σ : Mm} {rv : Option Value}
theorem x_callG {H0 : Heap} (hr : va_Run p l e R s m args below meth c H locs cells slots 0 0 (F0 m pc ls st0) rest (qcG N ce z σ rv a) (aG N z)) (hS : va_S (aG N z) H0 H locs)
    (kk : ∀ (H1 : Heap) (locs1 : List Loc), va_P z.1 vwCl (wl N z.2.1 (ce z σ)) H1 → va_S (aG N z) H0 H1 locs1 → W p l e R s m args below meth c H1 locs1 cells slots Q (F0 m (pc + 3) ls (rv.toList ++ rest))) : W p l e R s m args below meth c H locs cells slots Q (F0 m pc ls st0) := by
  intro T hT X
  obtain ⟨v, st₀, t, T', L, h0, X', hL, e1, e2, ⟨hv, hp, hz, hk⟩, st⟩ := hr T hT X
  have hv : v = rv := by injection hv
  subst hv
  rw [h0] at hz hk
  obtain ⟨t2, a1, b1⟩ := kk T'.heap (locs ++ L) (by rw [e1]; exact hp) ⟨Nat.le_trans hS.1 (by rw [e1]; exact hz), fun q h1 h2 => by rw [e1, hk q (Nat.lt_of_lt_of_le h1 hS.1) h2]; exact hS.2.1 q h1 h2, fun q hq => by
      rcases List.mem_append.mp hq with h | h
      · exact hS.2.2 q h
      · exact hL q h⟩ T' rfl X'
  exact ⟨t2, st t2 a1, b1⟩
theorem x_callGi {H0 : Heap} {v : Int32} (hr : va_Run p l e R s m args below meth c H locs cells slots 0 0 (F0 m pc ls st0) rest (qcG N ce z σ (some (.int v)) a) (aG N z)) (hS : va_S (aG N z) H0 H locs)
    (kk : ∀ (H1 : Heap) (locs1 : List Loc), va_P z.1 vwCl (wl N z.2.1 (ce z σ)) H1 → va_S (aG N z) H0 H1 locs1 → W p l e R s m args below meth c H1 locs1 cells slots Q (F0 m (pc + 3) ls (.int v :: rest))) : W p l e R s m args below meth c H locs cells slots Q (F0 m pc ls st0) := x_callG hr hS kk
theorem x_callGl {H0 : Heap} {v : Int64} (hr : va_Run p l e R s m args below meth c H locs cells slots 0 0 (F0 m pc ls st0) rest (qcG N ce z σ (some (.long v)) a) (aG N z)) (hS : va_S (aG N z) H0 H locs)
    (kk : ∀ (H1 : Heap) (locs1 : List Loc), va_P z.1 vwCl (wl N z.2.1 (ce z σ)) H1 → va_S (aG N z) H0 H1 locs1 → W p l e R s m args below meth c H1 locs1 cells slots Q (F0 m (pc + 3) ls (.long v :: rest))) : W p l e R s m args below meth c H locs cells slots Q (F0 m pc ls st0) := x_callG hr hS kk
theorem x_callGr {H0 : Heap} {v : Nat} (hr : va_Run p l e R s m args below meth c H locs cells slots 0 0 (F0 m pc ls st0) rest (qcG N ce z σ (some (.ref v)) a) (aG N z)) (hS : va_S (aG N z) H0 H locs)
    (kk : ∀ (H1 : Heap) (locs1 : List Loc), va_P z.1 vwCl (wl N z.2.1 (ce z σ)) H1 → va_S (aG N z) H0 H1 locs1 → W p l e R s m args below meth c H1 locs1 cells slots Q (F0 m (pc + 3) ls (.ref v :: rest))) : W p l e R s m args below meth c H locs cells slots Q (F0 m pc ls st0) := x_callG hr hS kk
theorem x_callGv {H0 : Heap} (hr : va_Run p l e R s m args below meth c H locs cells slots 0 0 (F0 m pc ls st0) rest (qcG N ce z σ none a) (aG N z)) (hS : va_S (aG N z) H0 H locs)
    (kk : ∀ (H1 : Heap) (locs1 : List Loc), va_P z.1 vwCl (wl N z.2.1 (ce z σ)) H1 → va_S (aG N z) H0 H1 locs1 → W p l e R s m args below meth c H1 locs1 cells slots Q (F0 m (pc + 3) ls rest)) : W p l e R s m args below meth c H locs cells slots Q (F0 m pc ls st0) := x_callG hr hS kk
theorem x_callS (hr : va_Run p l e R s m args below meth c H locs cells slots 0 0 (F0 m pc ls st0) rest (qcS rv a) (fun _ => False))
    (kk : W p l e R s m args below meth c H locs cells slots Q (F0 m (pc + 3) ls (rv.toList ++ rest))) : W p l e R s m args below meth c H locs cells slots Q (F0 m pc ls st0) := by
  intro T hT X
  obtain ⟨v, st₀, t, T', L, h0, X', hL, e1, e2, ⟨hv, hh⟩, st⟩ := hr T hT X
  have hv : v = rv := by injection hv
  subst hv
  obtain ⟨t2, a1, b1⟩ := kk T' (by rw [e1, hh, h0]) (Stand.forget X' (fun q h => (hL q h).elim))
  exact ⟨t2, st t2 a1, b1⟩
theorem x_callSi {v : Int32} (hr : va_Run p l e R s m args below meth c H locs cells slots 0 0 (F0 m pc ls st0) rest (qcS (some (.int v)) a) (fun _ => False))
    (kk : W p l e R s m args below meth c H locs cells slots Q (F0 m (pc + 3) ls (.int v :: rest))) : W p l e R s m args below meth c H locs cells slots Q (F0 m pc ls st0) := x_callS hr kk
theorem x_callSl {v : Int64} (hr : va_Run p l e R s m args below meth c H locs cells slots 0 0 (F0 m pc ls st0) rest (qcS (some (.long v)) a) (fun _ => False))
    (kk : W p l e R s m args below meth c H locs cells slots Q (F0 m (pc + 3) ls (.long v :: rest))) : W p l e R s m args below meth c H locs cells slots Q (F0 m pc ls st0) := x_callS hr kk
end XC
section XR
variable {p : Program} {l : Launch} {e : Env} {R : Room} {s : State} {m : MethodId} {args : Array Value} {below : List Frame} {meth : Method} {c : Code} {H : Heap} {locs : List Loc} {cc : ByteArray} {pc : Nat} {ls : Array Slot}
variable {N : Nat} {ce : Cx → Mm → Nat → va_E} {z : Cx} {σ σ' : Mm}
theorem x_iret {v r : Int32} (hx : p.tables.exec = Jvm.exec) (hb : c.code = cc) (hr : meth.sig.returnType = some .int) (hlocks : meth.locks = false) (hP : va_P z.1 vwCl (wl N z.2.1 (ce z σ)) H) (hS : va_S (aG N z) s.heap H locs) (hdg : decode cc pc = .ok (.ireturn, 1)) (h1 : v = r) (h2 : σ = σ') : W p l e R s m args below meth c H locs 0 0 (MQ below (qcG N ce z σ' (some (.int r))) args s 0 0 (aG N z)) (F0 m pc ls [.int v]) := by
  subst h1; subst h2
  exact W.iret hx hb hr (fun t ht _ => ⟨rfl, by rw [ht]; exact hP, hS.F ht⟩) hS.2.2 hdg hlocks
theorem x_zret {v r : Int32} (hx : p.tables.exec = Jvm.exec) (hb : c.code = cc) (hr : meth.sig.returnType = some .boolean) (hlocks : meth.locks = false) (hP : va_P z.1 vwCl (wl N z.2.1 (ce z σ)) H) (hS : va_S (aG N z) s.heap H locs) (hdg : decode cc pc = .ok (.ireturn, 1)) (hn : narrow .boolean (.int v) = .int v) (h1 : v = r) (h2 : σ = σ') : W p l e R s m args below meth c H locs 0 0 (MQ below (qcG N ce z σ' (some (.int r))) args s 0 0 (aG N z)) (F0 m pc ls [.int v]) := by
  subst h1; subst h2
  exact W.zret hx hb hr hn (fun t ht _ => ⟨rfl, by rw [ht]; exact hP, hS.F ht⟩) hS.2.2 hdg hlocks
theorem x_lret {v r : Int64} (hx : p.tables.exec = Jvm.exec) (hb : c.code = cc) (hr : meth.sig.returnType = some .long) (hlocks : meth.locks = false) (hP : va_P z.1 vwCl (wl N z.2.1 (ce z σ)) H) (hS : va_S (aG N z) s.heap H locs) (hdg : decode cc pc = .ok (.lreturn, 1)) (h1 : v = r) (h2 : σ = σ') : W p l e R s m args below meth c H locs 0 0 (MQ below (qcG N ce z σ' (some (.long r))) args s 0 0 (aG N z)) (F0 m pc ls [.long v]) := by
  subst h1; subst h2
  exact W.lret hx hb hr (fun t ht _ => ⟨rfl, by rw [ht]; exact hP, hS.F ht⟩) hS.2.2 hdg hlocks
theorem x_vret (hx : p.tables.exec = Jvm.exec) (hb : c.code = cc) (hr : meth.sig.returnType = none) (hlocks : meth.locks = false) (hP : va_P z.1 vwCl (wl N z.2.1 (ce z σ)) H) (hS : va_S (aG N z) s.heap H locs) (hdg : decode cc pc = .ok (.return_, 1)) (h2 : σ = σ') : W p l e R s m args below meth c H locs 0 0 (MQ below (qcG N ce z σ' none) args s 0 0 (aG N z)) (F0 m pc ls []) := by
  subst h2
  exact W.vret hx hb hr (fun t ht _ => ⟨rfl, by rw [ht]; exact hP, hS.F ht⟩) hS.2.2 hdg hlocks
theorem x_aret {rt : String} {v r : Nat} (hx : p.tables.exec = Jvm.exec) (hb : c.code = cc) (hr : meth.sig.returnType = some (.object rt)) (hlocks : meth.locks = false) (hP : va_P z.1 vwCl (wl N z.2.1 (ce z σ)) H) (hS : va_S (aG N z) s.heap H locs) (hdg : decode cc pc = .ok (.areturn, 1)) (h1 : v = r) (h2 : σ = σ') : W p l e R s m args below meth c H locs 0 0 (MQ below (qcG N ce z σ' (some (.ref (z.2.1 r)))) args s 0 0 (aG N z)) (F0 m pc ls [.ref (z.2.1 v)]) := by
  subst h1; subst h2
  exact W.aret hx hb hr (Or.inl ⟨_, rfl⟩) (Or.inr ⟨_, rfl⟩) (fun t ht _ => ⟨rfl, by rw [ht]; exact hP, hS.F ht⟩) hS.2.2 hdg hlocks
theorem xs_iret {v r : Int32} (hx : p.tables.exec = Jvm.exec) (hb : c.code = cc) (hr : meth.sig.returnType = some .int) (hlocks : meth.locks = false) (hdg : decode cc pc = .ok (.ireturn, 1)) (h1 : v = r) : W p l e R s m args below meth c s.heap [] 0 0 (MQ below (qcS (some (.int r))) args s 0 0 (fun _ => False)) (F0 m pc ls [.int v]) := by
  subst h1
  exact W.iret hx hb hr (fun t ht _ => ⟨rfl, ht⟩) (fun _ h => nomatch h) hdg hlocks
theorem xs_zret {v r : Int32} (hx : p.tables.exec = Jvm.exec) (hb : c.code = cc) (hr : meth.sig.returnType = some .boolean) (hlocks : meth.locks = false) (hdg : decode cc pc = .ok (.ireturn, 1)) (hn : narrow .boolean (.int v) = .int v) (h1 : v = r) : W p l e R s m args below meth c s.heap [] 0 0 (MQ below (qcS (some (.int r))) args s 0 0 (fun _ => False)) (F0 m pc ls [.int v]) := by
  subst h1
  exact W.zret hx hb hr hn (fun t ht _ => ⟨rfl, ht⟩) (fun _ h => nomatch h) hdg hlocks
theorem xs_lret {v r : Int64} (hx : p.tables.exec = Jvm.exec) (hb : c.code = cc) (hr : meth.sig.returnType = some .long) (hlocks : meth.locks = false) (hdg : decode cc pc = .ok (.lreturn, 1)) (h1 : v = r) : W p l e R s m args below meth c s.heap [] 0 0 (MQ below (qcS (some (.long r))) args s 0 0 (fun _ => False)) (F0 m pc ls [.long v]) := by
  subst h1
  exact W.lret hx hb hr (fun t ht _ => ⟨rfl, ht⟩) (fun _ h => nomatch h) hdg hlocks
end XR
/-! plain helps -/
theorem x_nb {x : Int32} (h : x &&& 1 = x) : narrow .boolean (.int x) = .int x := by
  show Value.int (x &&& 1) = .int x
  rw [h]
def ci (i : Int32) (n : Nat) : Bool := decide (0 ≤ i) && decide (i.toNatClampNeg < n)
theorem ci_in {i : Int32} {n : Nat} (h : ci i n = true) : vp_in i n := by
  simp only [ci, Bool.and_eq_true, decide_eq_true_eq] at h
  rintro (h1 | h1)
  · exact absurd h.1 (by rw [Int32.le_iff_toInt_le]; rw [Int32.lt_iff_toInt_lt] at h1; omega)
  · omega
theorem x_ck {α : Type} {c : Prop} [Decidable c] {A : Option α} {r : α} (h : (if c then A else none) = some r) : c ∧ A = some r := by
  by_cases hc : c
  · rw [if_pos hc] at h; exact ⟨hc, h⟩
  · rw [if_neg hc] at h; cases h
theorem x_bd {α β : Type} {a : Option α} {g : α → Option β} {r : β} (h : a.bind g = some r) : ∃ q, a = some q ∧ g q = some r := Option.bind_eq_some_iff.mp h
theorem x_sw {x : Int32} {lo hi : Int} (h : ∀ k : Int, lo ≤ k → k ≤ hi → x.toInt ≠ k) : x.toInt < lo ∨ hi < x.toInt := by
  rcases Int.lt_or_le x.toInt lo with h1 | h1
  · exact Or.inl h1
  · rcases Int.lt_or_le hi x.toInt with h2 | h2
    · exact Or.inr h2
    · exact absurd rfl (h _ h1 h2)
theorem x_ne {x k : Int32} {a : Int} (h : ¬ x = k) (hk : a = k.toInt) : x.toInt ≠ a := fun e => h (Int32.toInt_inj.mp (e.trans hk))
section XT
variable {p : Program} {l : Launch} {e : Env} {R : Room} {s : State} {m : MethodId} {args : Array Value} {below : List Frame} {meth : Method} {c : Code} {H : Heap} {locs : List Loc} {cells slots : Nat} {Q : State → Prop} {cc : ByteArray} {pc : Nat} {ls : Array Slot} {rest : List Value}
/-- a switch to its default: out of its range, or at a place that goes there -/
theorem x_tableD (hexec : p.tables.exec = Jvm.exec) (hb : c.code = cc) {dflt lo hi : Int} {offs : Array Int} {len : Nat} {x : Int32} {tgt : Nat} (hdg : decode cc pc = .ok (.tableswitch dflt lo hi offs, len)) (h : ∀ k : Int, lo ≤ k → k ≤ hi → x.toInt ≠ k ∨ offs[(k - lo).toNat]? = some dflt) (ht : (pc : Int) + dflt = (tgt : Int))
    (k : W p l e R s m args below meth c H locs cells slots Q (F0 m tgt ls rest)) : W p l e R s m args below meth c H locs cells slots Q (F0 m pc ls (.int x :: rest)) := by
  by_cases h1 : x.toInt < lo
  · exact lv_tableOut hexec hb hdg (Or.inl h1) ht k
  · by_cases h2 : hi < x.toInt
    · exact lv_tableOut hexec hb hdg (Or.inr h2) ht k
    · rcases h x.toInt (Int.not_lt.mp h1) (Int.not_lt.mp h2) with h3 | h3
      · exact absurd rfl h3
      · exact lv_tableIn hexec hb hdg h1 h2 h3 ht k
end XT
end
section
/-! THE CELLS OF THE CLASS (40) -/
def isTold (i : Nat) : Bool := i == 1 || i == 4 || i == 7
def isI8 (i : Nat) : Bool := i == 2 || i == 3 || i == 5 || i == 6 || i == 8 || i == 9
def isTal (i : Nat) : Bool := Nat.ble 14 i && Nat.ble i 32 && i % 3 == 2
def isCel (i : Nat) : Bool := (Nat.ble 14 i && Nat.ble i 34 && i % 3 == 0) || i == 36 || i == 38
def isJr (i : Nat) : Bool := (Nat.ble 14 i && Nat.ble i 34 && i % 3 == 1) || i == 37 || i == 39
theorem told_iff {i : Nat} : isTold i = true ↔ i = 1 ∨ i = 4 ∨ i = 7 := by simp [isTold, or_assoc]
theorem i8_iff {i : Nat} : isI8 i = true ↔ i = 2 ∨ i = 3 ∨ i = 5 ∨ i = 6 ∨ i = 8 ∨ i = 9 := by simp [isI8, or_assoc]
theorem tal_iff {i : Nat} : isTal i = true ↔ 14 ≤ i ∧ i ≤ 32 ∧ i % 3 = 2 := by simp [isTal, and_assoc]
theorem cel_iff {i : Nat} : isCel i = true ↔ (14 ≤ i ∧ i ≤ 34 ∧ i % 3 = 0) ∨ i = 36 ∨ i = 38 := by simp [isCel, and_assoc, or_assoc]
theorem jr_iff {i : Nat} : isJr i = true ↔ (14 ≤ i ∧ i ≤ 34 ∧ i % 3 = 1) ∨ i = 37 ∨ i = 39 := by simp [isJr, and_assoc, or_assoc]
theorem i8_a {i : Nat} (h : isTold i = true) : isI8 (i + 1) = true := by rw [told_iff] at h; rw [i8_iff]; omega
theorem i8_b {i : Nat} (h : isTold i = true) : isI8 (i + 2) = true := by rw [told_iff] at h; rw [i8_iff]; omega
theorem cel_t {i : Nat} (h : isTal i = true) : isCel (i + 1) = true := by rw [tal_iff] at h; rw [cel_iff]; omega
theorem jr_c {i : Nat} (h : isCel i = true) : isJr (i + 1) = true := by rw [cel_iff] at h; rw [jr_iff]; omega
theorem tal_ix {x : Int32} (h : ci x 6 = true) : isTal (14 + 3 * x.toNatClampNeg) = true := by
  simp only [ci, Bool.and_eq_true, decide_eq_true_eq] at h
  rw [tal_iff]; omega
theorem told_lt {i : Nat} (h : isTold i = true) : i < 40 := by rw [told_iff] at h; omega
theorem i8_lt {i : Nat} (h : isI8 i = true) : i < 40 := by rw [i8_iff] at h; omega
theorem tal_lt {i : Nat} (h : isTal i = true) : i < 40 := by rw [tal_iff] at h; omega
theorem cel_lt {i : Nat} (h : isCel i = true) : i < 40 := by rw [cel_iff] at h; omega
theorem jr_lt {i : Nat} (h : isJr i = true) : i < 40 := by rw [jr_iff] at h; omega
abbrev fs5 (z : Cx) (σ : Mm) (i : Nat) : List Value := [.ref (z.2.1 1), .ref (z.2.1 4), .ref (z.2.1 7), .int (gI σ i 3), .ref (z.2.1 10), .int (gI σ i 5), .int (gI σ i 6), .ref (z.2.1 12), .ref (z.2.1 13), .ref (z.2.1 32)]
abbrev fs3 (z : Cx) (σ : Mm) (i : Nat) : List Value := [.int (gI σ i 0), .int (gI σ i 1), .int (gI σ i 2), .int (gI σ i 3), .int (gI σ i 4), .int (gI σ i 5), .ref (z.2.1 (i + 1)), .ref (z.2.1 (i + 2))]
abbrev fs2 (z : Cx) (σ : Mm) (i : Nat) : List Value := [.ref (z.2.1 11), .int (gI σ i 1)]
abbrev fs1 (z : Cx) (σ : Mm) (i : Nat) : List Value := [.ref (z.2.1 35), .ref (z.2.1 (i + 1)), .int (gI σ i 2), .int (gI σ i 3), .int (gI σ i 4), .int (gI σ i 5), .int (gI σ i 6)]
abbrev fs4 (z : Cx) (σ : Mm) : List Value := [.ref (z.2.1 (gH σ)), .ref (z.2.1 (gN σ))]
abbrev fs0 (z : Cx) (i : Nat) : List Value := [.ref (z.2.1 (i + 1))]
def ceX (z : Cx) (σ : Mm) (i : Nat) : va_E :=
  if isTold i = true then .inr (3, fs3 z σ i)
  else if isI8 i = true then .inl (z.2.2.1.1, 8, .inl (gI σ i))
  else if isTal i = true then .inr (1, fs1 z σ i)
  else if isCel i = true then .inr (0, fs0 z i)
  else if isJr i = true then .inl (z.2.2.1.2.1, 242, .inr (.inl (gL σ i)))
  else if i = 0 then .inr (5, fs5 z σ i)
  else if i = 10 then .inr (2, fs2 z σ i)
  else if i = 11 then .inl (z.2.2.1.1, 64, .inl (gI σ i))
  else if i = 12 then .inl (z.2.2.1.1, 6, .inl (gI σ i))
  else if i = 13 then .inl (z.2.2.1.2.2, 6, .inr (.inr (.inr (.inr (fun k => some (z.2.1 (14 + 3 * k)))))))
  else .inr (4, fs4 z σ)
theorem cX3 {z : Cx} {σ : Mm} {i : Nat} (h : isTold i = true) : ceX z σ i = .inr (3, fs3 z σ i) := by rw [ceX, if_pos h]
theorem cXI8 {z : Cx} {σ : Mm} {i : Nat} (h : isI8 i = true) : ceX z σ i = .inl (z.2.2.1.1, 8, .inl (gI σ i)) := by
  rw [ceX, if_neg (by rw [i8_iff] at h; rw [told_iff]; omega), if_pos h]
theorem cX1 {z : Cx} {σ : Mm} {i : Nat} (h : isTal i = true) : ceX z σ i = .inr (1, fs1 z σ i) := by
  have h' := tal_iff.mp h
  rw [ceX, if_neg (by rw [told_iff]; omega), if_neg (by rw [i8_iff]; omega), if_pos h]
theorem cX0 {z : Cx} {σ : Mm} {i : Nat} (h : isCel i = true) : ceX z σ i = .inr (0, fs0 z i) := by
  have h' := cel_iff.mp h
  rw [ceX, if_neg (by rw [told_iff]; omega), if_neg (by rw [i8_iff]; omega), if_neg (by rw [tal_iff]; omega), if_pos h]
theorem cXJ {z : Cx} {σ : Mm} {i : Nat} (h : isJr i = true) : ceX z σ i = .inl (z.2.2.1.2.1, 242, .inr (.inl (gL σ i))) := by
  have h' := jr_iff.mp h
  rw [ceX, if_neg (by rw [told_iff]; omega), if_neg (by rw [i8_iff]; omega), if_neg (by rw [tal_iff]; omega), if_neg (by rw [cel_iff]; omega), if_pos h]
theorem cX5 {z : Cx} {σ : Mm} : ceX z σ 0 = .inr (5, fs5 z σ 0) := rfl
theorem cX2 {z : Cx} {σ : Mm} : ceX z σ 10 = .inr (2, fs2 z σ 10) := rfl
theorem cX4 {z : Cx} {σ : Mm} : ceX z σ 35 = .inr (4, fs4 z σ) := rfl
theorem cXI64 {z : Cx} {σ : Mm} : ceX z σ 11 = .inl (z.2.2.1.1, 64, .inl (gI σ 11)) := rfl
theorem cXI6 {z : Cx} {σ : Mm} : ceX z σ 12 = .inl (z.2.2.1.1, 6, .inl (gI σ 12)) := rfl
theorem cXT {z : Cx} {σ : Mm} : ceX z σ 13 = .inl (z.2.2.1.2.2, 6, .inr (.inr (.inr (.inr (fun k => some (z.2.1 (14 + 3 * k))))))) := rfl
theorem gI_ne {σ : Mm} {i k j : Nat} {v : Int32} (h : ¬ j = i) : gI (pI σ i k v) j = gI σ j := by funext b; rw [gI_pI, if_neg (fun q => h q.1)]
theorem gL_ne {σ : Mm} {i k j : Nat} {v : Int64} (h : ¬ j = i) : gL (pL σ i k v) j = gL σ j := by funext b; rw [gL_pL, if_neg (fun q => h q.1)]
theorem gI_up {σ : Mm} {i k : Nat} {v : Int32} : upd (gI σ i) k v = gI (pI σ i k v) i := by
  funext b
  rw [gI_pI]
  by_cases hb : b = k <;> simp [upd, hb]
theorem gL_up {σ : Mm} {i k : Nat} {v : Int64} : vp_updL (gL σ i) k v = gL (pL σ i k v) i := by
  funext b
  rw [gL_pL]
  by_cases hb : b = k <;> simp [vp_updL, hb]
theorem ceX_pI {z : Cx} {σ : Mm} {i k j : Nat} {v : Int32} (h : ¬ j = i) : ceX z (pI σ i k v) j = ceX z σ j := by
  unfold ceX fs5 fs3 fs2 fs1 fs4
  rw [gI_ne h]
  rfl
theorem ceX_pL {z : Cx} {σ : Mm} {i k j : Nat} {v : Int64} (h : ¬ j = i) : ceX z (pL σ i k v) j = ceX z σ j := by
  unfold ceX fs5 fs3 fs2 fs1 fs4
  rw [gL_ne h]
  rfl
theorem sX3 {z : Cx} {σ : Mm} {i : Nat} (h : isTold i = true) {k : Nat} (hk : k < 6) {v : Int32} : (wl 40 z.2.1 (ceX z σ)).set i (z.2.1 i, .inr (3, (fs3 z σ i).set k (.int v))) = wl 40 z.2.1 (ceX z (pI σ i k v)) := wl_set fun j _ => by
  by_cases e : j = i
  · subst e
    rw [if_pos rfl, cX3 h]
    rcases (show k = 0 ∨ k = 1 ∨ k = 2 ∨ k = 3 ∨ k = 4 ∨ k = 5 by omega) with rfl | rfl | rfl | rfl | rfl | rfl <;> simp [gI_pI]
  · rw [if_neg e, ceX_pI e]
theorem sX1 {z : Cx} {σ : Mm} {i : Nat} (h : isTal i = true) {k : Nat} (h2 : 2 ≤ k) (hk : k < 7) {v : Int32} : (wl 40 z.2.1 (ceX z σ)).set i (z.2.1 i, .inr (1, (fs1 z σ i).set k (.int v))) = wl 40 z.2.1 (ceX z (pI σ i k v)) := wl_set fun j _ => by
  by_cases e : j = i
  · subst e
    rw [if_pos rfl, cX1 h]
    rcases (show k = 2 ∨ k = 3 ∨ k = 4 ∨ k = 5 ∨ k = 6 by omega) with rfl | rfl | rfl | rfl | rfl <;> simp [gI_pI]
  · rw [if_neg e, ceX_pI e]
theorem sX5 {z : Cx} {σ : Mm} {k : Nat} (h : k = 3 ∨ k = 5 ∨ k = 6) {v : Int32} : (wl 40 z.2.1 (ceX z σ)).set 0 (z.2.1 0, .inr (5, (fs5 z σ 0).set k (.int v))) = wl 40 z.2.1 (ceX z (pI σ 0 k v)) := wl_set fun j _ => by
  by_cases e : j = 0
  · subst e
    rw [if_pos rfl, cX5]
    rcases h with rfl | rfl | rfl <;> simp [gI_pI]
  · rw [if_neg e, ceX_pI e]
theorem sX2 {z : Cx} {σ : Mm} {v : Int32} : (wl 40 z.2.1 (ceX z σ)).set 10 (z.2.1 10, .inr (2, (fs2 z σ 10).set 1 (.int v))) = wl 40 z.2.1 (ceX z (pI σ 10 1 v)) := wl_set fun j _ => by
  by_cases e : j = 10
  · subst e
    rw [if_pos rfl, cX2]
    simp [gI_pI]
  · rw [if_neg e, ceX_pI e]
theorem sX4h {z : Cx} {σ : Mm} {v : Nat} : (wl 40 z.2.1 (ceX z σ)).set 35 (z.2.1 35, .inr (4, (fs4 z σ).set 0 (.ref (z.2.1 v)))) = wl 40 z.2.1 (ceX z (pH σ v)) := wl_set fun j _ => by
  by_cases e : j = 35
  · subst e
    rw [if_pos rfl, cX4]
    simp [gH_pH, gN_pH]
  · rw [if_neg e]
    by_cases h1 : isTold j = true
    · rw [cX3 h1, cX3 h1]; rfl
    · by_cases h2 : isI8 j = true
      · rw [cXI8 h2, cXI8 h2]; rfl
      · by_cases h3 : isTal j = true
        · rw [cX1 h3, cX1 h3]; rfl
        · by_cases h4 : isCel j = true
          · rw [cX0 h4, cX0 h4]
          · by_cases h5 : isJr j = true
            · rw [cXJ h5, cXJ h5]; rfl
            · rw [told_iff] at h1; rw [i8_iff] at h2; rw [tal_iff] at h3; rw [cel_iff] at h4; rw [jr_iff] at h5
              rcases (show j = 0 ∨ j = 10 ∨ j = 11 ∨ j = 12 ∨ j = 13 by omega) with rfl | rfl | rfl | rfl | rfl <;> rfl
theorem sX4n {z : Cx} {σ : Mm} {v : Nat} : (wl 40 z.2.1 (ceX z σ)).set 35 (z.2.1 35, .inr (4, (fs4 z σ).set 1 (.ref (z.2.1 v)))) = wl 40 z.2.1 (ceX z (pN σ v)) := wl_set fun j _ => by
  by_cases e : j = 35
  · subst e
    rw [if_pos rfl, cX4]
    simp [gH_pN, gN_pN]
  · rw [if_neg e]
    by_cases h1 : isTold j = true
    · rw [cX3 h1, cX3 h1]; rfl
    · by_cases h2 : isI8 j = true
      · rw [cXI8 h2, cXI8 h2]; rfl
      · by_cases h3 : isTal j = true
        · rw [cX1 h3, cX1 h3]; rfl
        · by_cases h4 : isCel j = true
          · rw [cX0 h4, cX0 h4]
          · by_cases h5 : isJr j = true
            · rw [cXJ h5, cXJ h5]; rfl
            · rw [told_iff] at h1; rw [i8_iff] at h2; rw [tal_iff] at h3; rw [cel_iff] at h4; rw [jr_iff] at h5
              rcases (show j = 0 ∨ j = 10 ∨ j = 11 ∨ j = 12 ∨ j = 13 by omega) with rfl | rfl | rfl | rfl | rfl <;> rfl
theorem sXI8 {z : Cx} {σ : Mm} {i : Nat} (h : isI8 i = true) {k : Nat} {v : Int32} : (wl 40 z.2.1 (ceX z σ)).set i (z.2.1 i, .inl (z.2.2.1.1, 8, .inl (upd (gI σ i) k v))) = wl 40 z.2.1 (ceX z (pI σ i k v)) := wl_set fun j _ => by
  by_cases e : j = i
  · subst e
    rw [if_pos rfl, cXI8 h, gI_up]
  · rw [if_neg e, ceX_pI e]
theorem sXI64 {z : Cx} {σ : Mm} {k : Nat} {v : Int32} : (wl 40 z.2.1 (ceX z σ)).set 11 (z.2.1 11, .inl (z.2.2.1.1, 64, .inl (upd (gI σ 11) k v))) = wl 40 z.2.1 (ceX z (pI σ 11 k v)) := wl_set fun j _ => by
  by_cases e : j = 11
  · subst e
    rw [if_pos rfl, cXI64, gI_up]
  · rw [if_neg e, ceX_pI e]
theorem sXI6 {z : Cx} {σ : Mm} {k : Nat} {v : Int32} : (wl 40 z.2.1 (ceX z σ)).set 12 (z.2.1 12, .inl (z.2.2.1.1, 6, .inl (upd (gI σ 12) k v))) = wl 40 z.2.1 (ceX z (pI σ 12 k v)) := wl_set fun j _ => by
  by_cases e : j = 12
  · subst e
    rw [if_pos rfl, cXI6, gI_up]
  · rw [if_neg e, ceX_pI e]
theorem sXJ {z : Cx} {σ : Mm} {i : Nat} (h : isJr i = true) {k : Nat} {v : Int64} : (wl 40 z.2.1 (ceX z σ)).set i (z.2.1 i, .inl (z.2.2.1.2.1, 242, .inr (.inl (vp_updL (gL σ i) k v)))) = wl 40 z.2.1 (ceX z (pL σ i k v)) := wl_set fun j _ => by
  by_cases e : j = i
  · subst e
    rw [if_pos rfl, cXJ h, gL_up]
  · rw [if_neg e, ceX_pL e]
/-! THE CELLS OF THE REFERENCE (8) -/
def isI22 (i : Nat) : Bool := i == 2 || i == 3 || i == 4
theorem i22_iff {i : Nat} : isI22 i = true ↔ i = 2 ∨ i = 3 ∨ i = 4 := by simp [isI22, or_assoc]
theorem i22_lt {i : Nat} (h : isI22 i = true) : i < 8 := by rw [i22_iff] at h; omega
abbrev fs6 (z : Cx) (σ : Mm) (i : Nat) : List Value := [.ref (z.2.1 1), .ref (z.2.1 2), .ref (z.2.1 3), .ref (z.2.1 4), .int (gI σ i 4), .ref (z.2.1 5), .ref (z.2.1 6), .int (gI σ i 7), .int (gI σ i 8), .long (gL σ i 9), .long (gL σ i 10), .long (gL σ i 11), .long (gL σ i 12), .long (gL σ i 13), .long (gL σ i 14), .long (gL σ i 15), .long (gL σ i 16), .long (gL σ i 17), .long (gL σ i 18), .ref (z.2.1 7), .int (gI σ i 20), .int (gI σ i 21), .int (gI σ i 22), .int (gI σ i 23), .int (gI σ i 24), .int (gI σ i 25), .int (gI σ i 26), .int (gI σ i 27), .int (gI σ i 28)]
def ceM (z : Cx) (σ : Mm) (i : Nat) : va_E :=
  if isI22 i = true then .inl (z.2.2.1.1, 22, .inl (gI σ i))
  else if i = 0 then .inr (6, fs6 z σ i)
  else if i = 1 then .inl (z.2.2.1.1, 7, .inl (gI σ i))
  else if i = 5 then .inl (z.2.2.1.1, 64, .inl (gI σ i))
  else if i = 6 then .inl (z.2.2.1.1, 2, .inl (gI σ i))
  else .inl (z.2.2.1.2.1, 11, .inr (.inl (gL σ i)))
theorem cMI22 {z : Cx} {σ : Mm} {i : Nat} (h : isI22 i = true) : ceM z σ i = .inl (z.2.2.1.1, 22, .inl (gI σ i)) := by rw [ceM, if_pos h]
theorem cX6 {z : Cx} {σ : Mm} : ceM z σ 0 = .inr (6, fs6 z σ 0) := rfl
theorem cMI7 {z : Cx} {σ : Mm} : ceM z σ 1 = .inl (z.2.2.1.1, 7, .inl (gI σ 1)) := rfl
theorem cMI64 {z : Cx} {σ : Mm} : ceM z σ 5 = .inl (z.2.2.1.1, 64, .inl (gI σ 5)) := rfl
theorem cMI2 {z : Cx} {σ : Mm} : ceM z σ 6 = .inl (z.2.2.1.1, 2, .inl (gI σ 6)) := rfl
theorem cMJ {z : Cx} {σ : Mm} : ceM z σ 7 = .inl (z.2.2.1.2.1, 11, .inr (.inl (gL σ 7))) := rfl
theorem ceM_pI {z : Cx} {σ : Mm} {i k j : Nat} {v : Int32} (h : ¬ j = i) : ceM z (pI σ i k v) j = ceM z σ j := by
  unfold ceM fs6
  rw [gI_ne h]
  rfl
theorem ceM_pL {z : Cx} {σ : Mm} {i k j : Nat} {v : Int64} (h : ¬ j = i) : ceM z (pL σ i k v) j = ceM z σ j := by
  unfold ceM fs6
  rw [gL_ne h]
  rfl
theorem sX6I {z : Cx} {σ : Mm} {k : Nat} (h : k = 4 ∨ k = 7 ∨ k = 8 ∨ k = 20 ∨ k = 21 ∨ k = 22 ∨ k = 23 ∨ k = 24 ∨ k = 25 ∨ k = 26 ∨ k = 27 ∨ k = 28) {v : Int32} : (wl 8 z.2.1 (ceM z σ)).set 0 (z.2.1 0, .inr (6, (fs6 z σ 0).set k (.int v))) = wl 8 z.2.1 (ceM z (pI σ 0 k v)) := wl_set fun j _ => by
  by_cases e : j = 0
  · subst e
    rw [if_pos rfl, cX6]
    rcases h with rfl | rfl | rfl | rfl | rfl | rfl | rfl | rfl | rfl | rfl | rfl | rfl <;> rfl
  · rw [if_neg e, ceM_pI e]
theorem sX6L {z : Cx} {σ : Mm} {k : Nat} (h : k = 9 ∨ k = 10 ∨ k = 11 ∨ k = 12 ∨ k = 13 ∨ k = 14 ∨ k = 15 ∨ k = 16 ∨ k = 17 ∨ k = 18) {v : Int64} : (wl 8 z.2.1 (ceM z σ)).set 0 (z.2.1 0, .inr (6, (fs6 z σ 0).set k (.long v))) = wl 8 z.2.1 (ceM z (pL σ 0 k v)) := wl_set fun j _ => by
  by_cases e : j = 0
  · subst e
    rw [if_pos rfl, cX6]
    rcases h with rfl | rfl | rfl | rfl | rfl | rfl | rfl | rfl | rfl | rfl <;> rfl
  · rw [if_neg e, ceM_pL e]
theorem sMI22 {z : Cx} {σ : Mm} {i : Nat} (h : isI22 i = true) {k : Nat} {v : Int32} : (wl 8 z.2.1 (ceM z σ)).set i (z.2.1 i, .inl (z.2.2.1.1, 22, .inl (upd (gI σ i) k v))) = wl 8 z.2.1 (ceM z (pI σ i k v)) := wl_set fun j _ => by
  by_cases e : j = i
  · subst e
    rw [if_pos rfl, cMI22 h, gI_up]
  · rw [if_neg e, ceM_pI e]
theorem sMI7 {z : Cx} {σ : Mm} {k : Nat} {v : Int32} : (wl 8 z.2.1 (ceM z σ)).set 1 (z.2.1 1, .inl (z.2.2.1.1, 7, .inl (upd (gI σ 1) k v))) = wl 8 z.2.1 (ceM z (pI σ 1 k v)) := wl_set fun j _ => by
  by_cases e : j = 1
  · subst e
    rw [if_pos rfl, cMI7, gI_up]
  · rw [if_neg e, ceM_pI e]
theorem sMI64 {z : Cx} {σ : Mm} {k : Nat} {v : Int32} : (wl 8 z.2.1 (ceM z σ)).set 5 (z.2.1 5, .inl (z.2.2.1.1, 64, .inl (upd (gI σ 5) k v))) = wl 8 z.2.1 (ceM z (pI σ 5 k v)) := wl_set fun j _ => by
  by_cases e : j = 5
  · subst e
    rw [if_pos rfl, cMI64, gI_up]
  · rw [if_neg e, ceM_pI e]
theorem sMI2 {z : Cx} {σ : Mm} {k : Nat} {v : Int32} : (wl 8 z.2.1 (ceM z σ)).set 6 (z.2.1 6, .inl (z.2.2.1.1, 2, .inl (upd (gI σ 6) k v))) = wl 8 z.2.1 (ceM z (pI σ 6 k v)) := wl_set fun j _ => by
  by_cases e : j = 6
  · subst e
    rw [if_pos rfl, cMI2, gI_up]
  · rw [if_neg e, ceM_pI e]
theorem sMJ {z : Cx} {σ : Mm} {k : Nat} {v : Int64} : (wl 8 z.2.1 (ceM z σ)).set 7 (z.2.1 7, .inl (z.2.2.1.2.1, 11, .inr (.inl (vp_updL (gL σ 7) k v)))) = wl 8 z.2.1 (ceM z (pL σ 7 k v)) := wl_set fun j _ => by
  by_cases e : j = 7
  · subst e
    rw [if_pos rfl, cMJ, gL_up]
  · rw [if_neg e, ceM_pL e]
end
section
/-! THE FUNCTIONS: each method as a plain function, written by wip/whole/gen.py out of its code -/
def fX0_placeOf (a0 : Int32) (a1 : Int32) (a2 : Int32) : Option Int32 :=
  (if a0 < 0 then some (-1 : Int32)
  else (if (1 : Int32) < a0 then some (-1 : Int32)
  else (if a1 < 0 then some (-1 : Int32)
  else (if (11 : Int32) ≤ a1 then some (-1 : Int32)
  else (if a2 < 0 then some (-1 : Int32)
  else (if a2 < (11 : Int32) then some ((((a0 * (11 : Int32)) + a1) * (11 : Int32)) + a2)
  else some (-1 : Int32)))))))
def fX0_at (i : Nat) (a0 : Int32) (a1 : Int32) (a2 : Int32) (σ : Mm) : Option Int64 :=
  (fX0_placeOf a0 a1 a2).bind (fun q_1 => (if q_1 < 0 then some (0 : Int64)
  else (if (242 : Int32) ≤ q_1 then some (0 : Int64)
  else (if ci q_1 242 = true then some (gL σ (i + 1) q_1.toNatClampNeg) else none))))
def fX0_add (i : Nat) (a0 : Int32) (a1 : Int32) (a2 : Int32) (a3 : Int64) (σ : Mm) : Option Mm :=
  (fX0_placeOf a0 a1 a2).bind (fun q_1 => (if q_1 < 0 then some σ
  else (if (242 : Int32) ≤ q_1 then some σ
  else (if ci q_1 242 = true then (if ci q_1 242 = true then some (pL σ (i + 1) q_1.toNatClampNeg ((gL σ (i + 1) q_1.toNatClampNeg) + a3)) else none) else none))))
def fJ7_fill_d0a16_6 (j : Nat)  : Nat → Int64 → Int32 → Int32 → Mm → Option Mm
  | 0, _, _, _, _ => none
  | n + 1, v1, v3, v4, σ => (if v4 ≤ v3 then some σ
  else (if ci v3 242 = true then fJ7_fill_d0a16_6 j n v1 (v3 + (1 : Int32)) v4 (pL σ j v3.toNatClampNeg v1) else none))
def fJ7_fill_d0a16 (j : Nat) (a1 : Int64) (σ : Mm) : Option Mm :=
  fJ7_fill_d0a16_6 j 1000 a1 (0 : Int32) (242 : Int32) σ
def fX0_clear (i : Nat) (σ : Mm) : Option Mm :=
  (fJ7_fill_d0a16 (i + 1) (0 : Int64) σ).bind (fun q_1 => some q_1)
def fX5_chanceOfOne (a0 : Int32) (a1 : Int32) (a2 : Int32) (a3 : Int32) : Option Int32 :=
  (if a2 = 0 then some a0
  else (if a3 ≤ 0 then some (if (0 : Int32) < (if (a0 - a1) < (12 : Int32) then (a0 - a1) else (12 : Int32)) then (if (a0 - a1) < (12 : Int32) then (a0 - a1) else (12 : Int32)) else (0 : Int32))
  else some (if (0 : Int32) < (if (a0 + a1) < (12 : Int32) then (a0 + a1) else (12 : Int32)) then (if (a0 + a1) < (12 : Int32) then (a0 + a1) else (12 : Int32)) else (0 : Int32))))
def fX5_lawStops (a0 : Int32) (a1 : Int32) (a2 : Int32) (a3 : Int32) (a4 : Int32) : Option Int32 :=
  (if a0 = (0 : Int32) then (if a4 ≤ 0 then some (0 : Int32)
  else some (1 : Int32))
  else (if a0 = (1 : Int32) then (if a2 < a1 then some (0 : Int32)
  else some (1 : Int32))
  else (if a0 = (2 : Int32) then (if (a2 - a3) = a1 then some (1 : Int32)
  else some (0 : Int32))
  else (if a0 = (3 : Int32) then (if a2 = a3 then some (1 : Int32)
  else some (0 : Int32))
  else (if a0 = (4 : Int32) then (if a4 < a1 then some (0 : Int32)
  else some (1 : Int32))
  else (if a0 = (5 : Int32) then (if a2 ≤ 0 then some (0 : Int32)
  else (if a3 ≤ 0 then some (0 : Int32)
  else some (1 : Int32)))
  else some (1 : Int32)))))))
def fX1_goOn_77 (i : Nat)  (v1 : Int32) (v3 : Int32) (v5 : Int64) (v7 : Int32) (t0 : Int64) (σ : Mm) : Option Mm :=
  (fX0_add (i + 1) v1 v3 v7 (v5 * t0) σ).bind (fun q_1 => some q_1)
def fX1_goOn_76 (i : Nat)  (v1 : Int32) (v3 : Int32) (v5 : Int64) (v7 : Int32) (σ : Mm) : Option Mm :=
  fX1_goOn_77 i v1 v3 v5 v7 (0 : Int64) σ
def fX1_goOn_56 (i : Nat)  (v1 : Int32) (v2 : Int32) (v3 : Int32) (v5 : Int64) (v7 : Int32) (σ : Mm) : Option Mm :=
  (if v2 < 0 then fX1_goOn_76 i v1 v3 v5 v7 σ
  else (if (11 : Int32) ≤ v2 then fX1_goOn_76 i v1 v3 v5 v7 σ
  else (if ci v2 11 = true then fX1_goOn_77 i v1 v3 v5 v7 (uN v2.toNatClampNeg) σ else none)))
def fX1_goOn (i : Nat) (a0 : Int32) (a1 : Int32) (a2 : Int32) (a3 : Int32) (σ : Mm) : Option Mm :=
  (if isCel (gH σ) = true then (fX0_at (gH σ) a0 a2 a3 σ).bind (fun q_2 => (if (lg_cmp q_2 (0 : Int64)) = 0 then some σ
  else (if (gI σ i 4) ≤ a1 then fX1_goOn_56 i a0 a1 a2 q_2 (a1 - a2) σ
  else (fX5_lawStops (gI σ i 2) (gI σ i 3) a2 (a1 - a2) a3).bind (fun q_5 => (if q_5 = 0 then (fX5_chanceOfOne (gI σ i 5) (gI σ i 6) a1 a3).bind (fun q_7 => (if isCel (gN σ) = true then (fX0_add (gN σ) a0 (a2 + (1 : Int32)) (a3 + (1 : Int32)) (q_2 * (q_7.toInt64)) σ).bind (fun q_9 => (if isCel (gN q_9) = true then (fX0_add (gN q_9) a0 a2 (0 : Int32) (q_2 * (((12 : Int32) - q_7).toInt64)) q_9).bind (fun q_11 => some q_11) else none)) else none))
  else fX1_goOn_56 i a0 a1 a2 q_2 (a1 - a2) σ))))) else none)
def fX4_begin (a0 : Int32) (σ : Mm) : Option Mm :=
  (if isCel (gH σ) = true then (fX0_clear (gH σ) σ).bind (fun q_2 => (if isCel (gN q_2) = true then (fX0_clear (gN q_2) q_2).bind (fun q_4 => (if isCel (gH q_4) = true then (fX0_add (gH q_4) (1 : Int32) (1 : Int32) (1 : Int32) (a0.toInt64) q_4).bind (fun q_6 => (if isCel (gH q_6) = true then (fX0_add (gH q_6) (0 : Int32) (0 : Int32) (0 : Int32) (((12 : Int32) - a0).toInt64) q_6).bind (fun q_8 => some q_8) else none)) else none)) else none)) else none)
def fX4_stepOn  (σ : Mm) : Option Mm :=
  (if isCel (gH σ) = true then (if isCel (gN σ) = true then (if isCel (gN (pN (pH σ (gN σ)) (gH σ))) = true then (fX0_clear (gN (pN (pH σ (gN σ)) (gH σ))) (pN (pH σ (gN σ)) (gH σ))).bind (fun q_4 => some q_4) else none) else none) else none)
def fX1_retell_113 (i : Nat) (K91 : Int32 → Mm → Option Mm) (K103 : Int32 → Int32 → Mm → Option Mm) : Nat → Int32 → Int32 → Int32 → Mm → Option Mm
  | 0, _, _, _, _ => none
  | n + 1, v6, v7, v8, σ => (if v7 < v8 then K103 v6 (v7 + (1 : Int32)) σ
  else (fX1_goOn i (0 : Int32) v6 v7 v8 σ).bind (fun q_2 => (fX1_goOn i (1 : Int32) v6 v7 v8 q_2).bind (fun q_3 => fX1_retell_113 i K91 K103 n v6 v7 (v8 + (1 : Int32)) q_3)))
def fX1_retell_103 (i : Nat) (K91 : Int32 → Mm → Option Mm) : Nat → Int32 → Int32 → Mm → Option Mm
  | 0, _, _, _ => none
  | n + 1, v6, v7, σ => (if v6 < v7 then (fX4_stepOn σ).bind (fun q_5 => K91 (v6 + (1 : Int32)) q_5)
  else fX1_retell_113 i K91 (fun wv6 wv7 wσ => fX1_retell_103 i K91 n wv6 wv7 wσ) 1000 v6 v7 (0 : Int32) σ)
def fX1_retell_91 (i : Nat)  : Nat → Int32 → Mm → Option Mm
  | 0, _, _ => none
  | n + 1, v6, σ => (if (gI σ i 4) < v6 then some σ
  else fX1_retell_103 i (fun wv6 wσ => fX1_retell_91 i n wv6 wσ) 1000 v6 (0 : Int32) σ)
def fX1_retell_43 (i : Nat)  (v1 : Int32) (v2 : Int32) (v3 : Int32) (v4 : Int32) (v5 : Int32) (σ : Mm) : Option Mm :=
  (fX0_clear (i + 1) (pI (pI (pI (pI (pI σ i 2 v1) i 3 v2) i 4 v3) i 5 v4) i 6 v5)).bind (fun q_7 => (fX4_begin (gI q_7 i 5) q_7).bind (fun q_8 => fX1_retell_91 i 1000 (1 : Int32) q_8))
def fX1_retell (i : Nat) (a0 : Int32) (a1 : Int32) (a2 : Int32) (a3 : Int32) (a4 : Int32) (σ : Mm) : Option Mm :=
  (if (gI σ i 2) = a0 then (if (gI σ i 3) = a1 then (if (gI σ i 4) = a2 then (if (gI σ i 5) = a3 then (if (gI σ i 6) = a4 then some σ
  else fX1_retell_43 i a0 a1 a2 a3 a4 σ)
  else fX1_retell_43 i a0 a1 a2 a3 a4 σ)
  else fX1_retell_43 i a0 a1 a2 a3 a4 σ)
  else fX1_retell_43 i a0 a1 a2 a3 a4 σ)
  else fX1_retell_43 i a0 a1 a2 a3 a4 σ)
def fX1_families (i : Nat) (a0 : Int32) (a1 : Int32) (σ : Mm) : Option Int64 :=
  (fX0_at (i + 1) (0 : Int32) a0 a1 σ).bind (fun q_1 => (fX0_at (i + 1) (1 : Int32) a0 a1 σ).bind (fun q_2 => some (q_1 + q_2)))
def fX1_familiesFrom (i : Nat) (a0 : Int32) (a1 : Int32) (a2 : Int32) (σ : Mm) : Option Int64 :=
  (fX0_at (i + 1) a0 a1 a2 σ).bind (fun q_1 => some q_1)
def fX1_measured (a0 : Int32) (a1 : Int32) (a2 : Int32) (a3 : Int32) : Option Int64 :=
  (if a0 = (0 : Int32) then some ((a2 + a3).toInt64)
  else (if a0 = (1 : Int32) then some (a2.toInt64)
  else (if a0 = (2 : Int32) then some (a3.toInt64)
  else (if a0 = (3 : Int32) then (if a2 ≤ a3 then some (0 : Int64)
  else some (1 : Int64))
  else (if a0 = (4 : Int32) then (if a2 = a3 then some (1 : Int64)
  else some (0 : Int64))
  else (if a0 = (5 : Int32) then (if a3 ≤ a2 then some (0 : Int64)
  else some (1 : Int64))
  else (if a0 = (6 : Int32) then (if (a2 + a3) = 0 then some (0 : Int64)
  else (if ¬ (a2 + a3) = 0 then some ((a2 * ((2520 : Int32) / (a2 + a3))).toInt64) else none))
  else (if a0 = (7 : Int32) then (if (a2 + a3) = a1 then some (1 : Int64)
  else some (0 : Int64))
  else (if a0 = (8 : Int32) then (if a2 ≤ a3 then some (0 : Int64)
  else some ((a2 + a3).toInt64))
  else (if a0 = (9 : Int32) then (if a2 ≤ (1 : Int32) then some (0 : Int64)
  else some (a2.toInt64))
  else (if a0 = (10 : Int32) then (if (a2 - a3) = a1 then some (1 : Int64)
  else some (0 : Int64))
  else some (0 : Int64))))))))))))
def fX1_sum_61 (i : Nat) (σ : Mm) (K5 : Int32 → Int32 → Int64 → Int32 → Option Int64) (K17 : Int32 → Int32 → Int64 → Int32 → Int32 → Option Int64) (v1 : Int32) (v2 : Int32) (v3 : Int64) (v5 : Int32) (v6 : Int32) : Option Int64 :=
  K17 v1 v2 v3 v5 (v6 + (1 : Int32))
def fX1_sum_17 (i : Nat) (σ : Mm) (K5 : Int32 → Int32 → Int64 → Int32 → Option Int64) : Nat → Int32 → Int32 → Int64 → Int32 → Int32 → Option Int64
  | 0, _, _, _, _, _ => none
  | n + 1, v1, v2, v3, v5, v6 => (if ((gI σ i 4) - v5) < v6 then K5 v1 v2 v3 (v5 + (1 : Int32))
  else (fX1_families i v5 v6 σ).bind (fun q_2 => (if (lg_cmp q_2 (0 : Int64)) = 0 then fX1_sum_61 i σ K5 (fun wv1 wv2 wv3 wv5 wv6 => fX1_sum_17 i σ K5 n wv1 wv2 wv3 wv5 wv6) v1 v2 v3 v5 v6
  else (fX1_measured v1 v2 v5 v6).bind (fun q_4 => fX1_sum_61 i σ K5 (fun wv1 wv2 wv3 wv5 wv6 => fX1_sum_17 i σ K5 n wv1 wv2 wv3 wv5 wv6) v1 v2 (v3 + (q_2 * q_4)) v5 v6))))
def fX1_sum_5 (i : Nat) (σ : Mm)  : Nat → Int32 → Int32 → Int64 → Int32 → Option Int64
  | 0, _, _, _, _ => none
  | n + 1, v1, v2, v3, v5 => (if (gI σ i 4) < v5 then some v3
  else fX1_sum_17 i σ (fun wv1 wv2 wv3 wv5 => fX1_sum_5 i σ n wv1 wv2 wv3 wv5) 1000 v1 v2 v3 v5 (0 : Int32))
def fX1_sum (i : Nat) (a0 : Int32) (a1 : Int32) (σ : Mm) : Option Int64 :=
  fX1_sum_5 i σ 1000 a0 a1 (0 : Int64) (0 : Int32)
def fX2_append (a0 : Int32) (σ : Mm) : Option Mm :=
  (if (gI σ 10 1) < 0 then some σ
  else (if (64 : Int32) ≤ (gI σ 10 1) then some σ
  else (if ci (gI σ 10 1) 64 = true then some (pI (pI σ 11 (gI σ 10 1).toNatClampNeg a0) 10 1 ((gI (pI σ 11 (gI σ 10 1).toNatClampNeg a0) 10 1) + (1 : Int32))) else none)))
def fX2_at (a0 : Int32) (σ : Mm) : Option Int32 :=
  (if a0 < 0 then some (-1 : Int32)
  else (if (gI σ 10 1) ≤ a0 then some (-1 : Int32)
  else (if (64 : Int32) ≤ a0 then some (-1 : Int32)
  else (if ci a0 64 = true then some (gI σ 11 a0.toNatClampNeg) else none))))
def fX2_endOfDigits_38 (σ : Mm)  (v1 : Int32) (v4 : Int32) : Option Int32 :=
  (if v4 = v1 then some ((-1 : Int32) - v1)
  else some v4)
def fX2_endOfDigits_3 (σ : Mm)  : Nat → Int32 → Int32 → Int32 → Int32 → Option Int32
  | 0, _, _, _, _ => none
  | n + 1, v1, v2, v3, v4 => (if v3 ≤ (v4 - v1) then fX2_endOfDigits_38 σ v1 v4
  else (fX2_at v4 σ).bind (fun q_3 => (if q_3 < (48 : Int32) then fX2_endOfDigits_38 σ v1 v4
  else (fX2_at v4 σ).bind (fun q_5 => (if v2 < q_5 then fX2_endOfDigits_38 σ v1 v4
  else fX2_endOfDigits_3 σ n v1 v2 v3 (v4 + (1 : Int32)))))))
def fX2_endOfDigits (a0 : Int32) (a1 : Int32) (a2 : Int32) (σ : Mm) : Option Int32 :=
  fX2_endOfDigits_3 σ 1000 a0 a1 a2 a0
def fX2_isSign (a0 : Int32) : Option Int32 :=
  (if a0 = (43 : Int32) then some (1 : Int32)
  else (if a0 = (45 : Int32) then some (1 : Int32)
  else some (0 : Int32)))
def fX2_kindAt (a0 : Int32) (σ : Mm) : Option Int32 :=
  (fX2_at a0 σ).bind (fun q_1 => (if q_1 = (97 : Int32) then some (2 : Int32)
  else (if q_1 = (98 : Int32) then some (5 : Int32)
  else (if q_1 = (99 : Int32) then some (1 : Int32)
  else (if q_1 = (101 : Int32) then some (3 : Int32)
  else (if q_1 = (114 : Int32) then some (4 : Int32)
  else (if q_1 = (116 : Int32) then some (0 : Int32)
  else some (-1 : Int32))))))))
def fX2_endOfStatement_168 (σ : Mm)  (v2 : Int32) : Option Int32 :=
  (if 0 ≤ v2 then (fX2_at v2 σ).bind (fun q_2 => (if q_2 = (59 : Int32) then some (v2 + (1 : Int32))
  else some ((-1 : Int32) - v2)))
  else some v2)
def fX2_endOfStatement_96 (σ : Mm)  (t0 : Int32) : Option Int32 :=
  fX2_endOfStatement_168 σ t0
def fX2_endOfStatement_145 (σ : Mm)  (t0 : Int32) : Option Int32 :=
  fX2_endOfStatement_168 σ t0
def fX2_endOfStatement (a0 : Int32) (σ : Mm) : Option Int32 :=
  (fX2_at a0 σ).bind (fun q_1 => (if q_1 = (99 : Int32) then (fX2_endOfDigits (a0 + (1 : Int32)) (57 : Int32) (2 : Int32) σ).bind (fun q_16 => fX2_endOfStatement_168 σ q_16)
  else (if q_1 = (102 : Int32) then (fX2_endOfDigits (a0 + (1 : Int32)) (49 : Int32) (10 : Int32) σ).bind (fun q_15 => fX2_endOfStatement_168 σ q_15)
  else (if q_1 = (108 : Int32) then (fX2_kindAt (a0 + (1 : Int32)) σ).bind (fun q_12 => (if 0 ≤ q_12 then (fX2_endOfDigits (a0 + (2 : Int32)) (57 : Int32) (1 : Int32) σ).bind (fun q_14 => fX2_endOfStatement_96 σ q_14)
  else fX2_endOfStatement_96 σ ((-1 : Int32) - (a0 + (1 : Int32)))))
  else (if q_1 = (109 : Int32) then (fX2_endOfDigits (a0 + (1 : Int32)) (57 : Int32) (2 : Int32) σ).bind (fun q_11 => fX2_endOfStatement_168 σ q_11)
  else (if q_1 = (110 : Int32) then (fX2_at (a0 + (1 : Int32)) σ).bind (fun q_7 => (fX2_isSign q_7).bind (fun q_8 => (if q_8 = 0 then fX2_endOfStatement_145 σ ((-1 : Int32) - (a0 + (1 : Int32)))
  else (fX2_endOfDigits (a0 + (2 : Int32)) (57 : Int32) (1 : Int32) σ).bind (fun q_10 => fX2_endOfStatement_145 σ q_10))))
  else fX2_endOfStatement_168 σ ((-1 : Int32) - a0)))))))
def fX2_firstFault_4 (σ : Mm)  : Nat → Int32 → Int32 → Option Int32
  | 0, _, _ => none
  | n + 1, v1, v2 => (fX2_endOfStatement v1 σ).bind (fun q_1 => (if 0 ≤ q_1 then (if (gI σ 10 1) ≤ q_1 then some (-1 : Int32)
  else (if (v2 + (1 : Int32)) < (64 : Int32) then fX2_firstFault_4 σ n q_1 (v2 + (1 : Int32))
  else some (-1 : Int32)))
  else some ((-1 : Int32) - q_1)))
def fX2_firstFault  (σ : Mm) : Option Int32 :=
  fX2_firstFault_4 σ 1000 (0 : Int32) (0 : Int32)
def fX2_numberAt_5 (σ : Mm)  : Nat → Int32 → Int32 → Int32 → Option Int32
  | 0, _, _, _ => none
  | n + 1, v2, v3, v4 => (if v2 ≤ v4 then some v3
  else (fX2_at v4 σ).bind (fun q_2 => fX2_numberAt_5 σ n v2 ((((10 : Int32) * v3) + q_2) - (48 : Int32)) (v4 + (1 : Int32))))
def fX2_numberAt (a0 : Int32) (a1 : Int32) (σ : Mm) : Option Int32 :=
  fX2_numberAt_5 σ 1000 a1 (0 : Int32) a0
def fX3_lengthOf (i : Nat) (a0 : Int32) (σ : Mm) : Option Int32 :=
  (if a0 < 0 then some (0 : Int32)
  else (if (8 : Int32) ≤ a0 then some (0 : Int32)
  else (if ci a0 8 = true then some (gI σ (i + 1) a0.toNatClampNeg) else none)))
def fX3_sortsOf (i : Nat) (a0 : Int32) (σ : Mm) : Option Int32 :=
  (if a0 < 0 then some (0 : Int32)
  else (if (8 : Int32) ≤ a0 then some (0 : Int32)
  else (if ci a0 8 = true then some (gI σ (i + 2) a0.toNatClampNeg) else none)))
def fX3_copy_50 (i : Nat) (j : Nat)  : Nat → Int32 → Mm → Option Mm
  | 0, _, _ => none
  | n + 1, v2, σ => (if (8 : Int32) ≤ v2 then some σ
  else (fX3_lengthOf j v2 σ).bind (fun q_2 => (if ci v2 8 = true then (fX3_sortsOf j v2 (pI σ (i + 1) v2.toNatClampNeg q_2)).bind (fun q_4 => (if ci v2 8 = true then fX3_copy_50 i j n (v2 + (1 : Int32)) (pI (pI σ (i + 1) v2.toNatClampNeg q_2) (i + 2) v2.toNatClampNeg q_4) else none)) else none)))
def fX3_copy (i : Nat) (j : Nat) (σ : Mm) : Option Mm :=
  fX3_copy_50 i j 1000 (0 : Int32) (pI (pI (pI (pI (pI (pI σ i 0 (gI σ j 0)) i 1 (gI (pI σ i 0 (gI σ j 0)) j 1)) i 2 (gI (pI (pI σ i 0 (gI σ j 0)) i 1 (gI (pI σ i 0 (gI σ j 0)) j 1)) j 2)) i 3 (gI (pI (pI (pI σ i 0 (gI σ j 0)) i 1 (gI (pI σ i 0 (gI σ j 0)) j 1)) i 2 (gI (pI (pI σ i 0 (gI σ j 0)) i 1 (gI (pI σ i 0 (gI σ j 0)) j 1)) j 2)) j 3)) i 4 (gI (pI (pI (pI (pI σ i 0 (gI σ j 0)) i 1 (gI (pI σ i 0 (gI σ j 0)) j 1)) i 2 (gI (pI (pI σ i 0 (gI σ j 0)) i 1 (gI (pI σ i 0 (gI σ j 0)) j 1)) j 2)) i 3 (gI (pI (pI (pI σ i 0 (gI σ j 0)) i 1 (gI (pI σ i 0 (gI σ j 0)) j 1)) i 2 (gI (pI (pI σ i 0 (gI σ j 0)) i 1 (gI (pI σ i 0 (gI σ j 0)) j 1)) j 2)) j 3)) j 4)) i 5 (gI (pI (pI (pI (pI (pI σ i 0 (gI σ j 0)) i 1 (gI (pI σ i 0 (gI σ j 0)) j 1)) i 2 (gI (pI (pI σ i 0 (gI σ j 0)) i 1 (gI (pI σ i 0 (gI σ j 0)) j 1)) j 2)) i 3 (gI (pI (pI (pI σ i 0 (gI σ j 0)) i 1 (gI (pI σ i 0 (gI σ j 0)) j 1)) i 2 (gI (pI (pI σ i 0 (gI σ j 0)) i 1 (gI (pI σ i 0 (gI σ j 0)) j 1)) j 2)) j 3)) i 4 (gI (pI (pI (pI (pI σ i 0 (gI σ j 0)) i 1 (gI (pI σ i 0 (gI σ j 0)) j 1)) i 2 (gI (pI (pI σ i 0 (gI σ j 0)) i 1 (gI (pI σ i 0 (gI σ j 0)) j 1)) j 2)) i 3 (gI (pI (pI (pI σ i 0 (gI σ j 0)) i 1 (gI (pI σ i 0 (gI σ j 0)) j 1)) i 2 (gI (pI (pI σ i 0 (gI σ j 0)) i 1 (gI (pI σ i 0 (gI σ j 0)) j 1)) j 2)) j 3)) j 4)) j 5))
def fX3_least (a0 : Int32) : Option Int32 :=
  (if a0 = (2 : Int32) then some (0 : Int32)
  else some (1 : Int32))
def fX3_greatest (a0 : Int32) : Option Int32 :=
  (if a0 = (1 : Int32) then some (11 : Int32)
  else some (10 : Int32))
def fX3_number (i : Nat) (a0 : Int32) (σ : Mm) : Option Int32 :=
  (if a0 = (2 : Int32) then some ((5 : Int32) + (gI σ i 4))
  else (if a0 = (1 : Int32) then some (gI σ i 3)
  else some (gI σ i 2)))
def fX3_tellNumber (i : Nat) (a0 : Int32) (a1 : Int32) (σ : Mm) : Option (Int32 × Mm) :=
  (fX3_least a0).bind (fun q_1 => (if a1 < q_1 then some ((0 : Int32), σ)
  else (fX3_greatest a0).bind (fun q_3 => (if a1 ≤ q_3 then (if a0 = (2 : Int32) then some ((1 : Int32), (pI σ i 4 (a1 - (5 : Int32))))
  else (if a0 = (1 : Int32) then some ((1 : Int32), (pI σ i 3 a1))
  else some ((1 : Int32), (pI σ i 2 a1))))
  else some ((0 : Int32), σ)))))
def fX3_takeFamily_52 (i : Nat) (K24 : Int32 → Int32 → Int32 → Int32 → Mm → Option (Int32 × Mm)) (v2 : Int32) (v3 : Int32) (v4 : Int32) (v5 : Int32) (σ : Mm) : Option (Int32 × Mm) :=
  K24 v2 v3 v4 (v5 + (1 : Int32)) σ
def fX3_takeFamily_24 (i : Nat)  : Nat → Int32 → Int32 → Int32 → Int32 → Mm → Option (Int32 × Mm)
  | 0, _, _, _, _, _ => none
  | n + 1, v2, v3, v4, v5, σ => (if v3 ≤ v5 then (if ci (gI σ i 5) 8 = true then (if ci (gI (pI σ (i + 1) (gI σ i 5).toNatClampNeg (v3 - v2)) i 5) 8 = true then some ((1 : Int32), (pI (pI (pI σ (i + 1) (gI σ i 5).toNatClampNeg (v3 - v2)) (i + 2) (gI (pI σ (i + 1) (gI σ i 5).toNatClampNeg (v3 - v2)) i 5).toNatClampNeg v4) i 5 ((gI (pI (pI σ (i + 1) (gI σ i 5).toNatClampNeg (v3 - v2)) (i + 2) (gI (pI σ (i + 1) (gI σ i 5).toNatClampNeg (v3 - v2)) i 5).toNatClampNeg v4) i 5) + (1 : Int32)))) else none) else none)
  else (fX2_at v5 σ).bind (fun q_4 => (if q_4 = (49 : Int32) then fX3_takeFamily_52 i (fun wv2 wv3 wv4 wv5 wσ => fX3_takeFamily_24 i n wv2 wv3 wv4 wv5 wσ) v2 v3 (v4 ||| ((1 : Int32) <<< ((v5 - v2) &&& 31))) v5 σ
  else fX3_takeFamily_52 i (fun wv2 wv3 wv4 wv5 wσ => fX3_takeFamily_24 i n wv2 wv3 wv4 wv5 wσ) v2 v3 v4 v5 σ)))
def fX3_takeFamily (i : Nat) (a1 : Int32) (a2 : Int32) (σ : Mm) : Option (Int32 × Mm) :=
  (if (gI σ i 5) < 0 then some ((0 : Int32), σ)
  else (if (gI σ i 5) < (8 : Int32) then fX3_takeFamily_24 i 1000 a1 a2 (0 : Int32) a1 σ
  else some ((0 : Int32), σ)))
def fX3_takeLaw (i : Nat) (a0 : Int32) (a1 : Int32) (σ : Mm) : Option (Int32 × Mm) :=
  (if a0 < 0 then some ((0 : Int32), σ)
  else (if a1 < (1 : Int32) then some ((0 : Int32), σ)
  else (if a1 ≤ (9 : Int32) then some ((1 : Int32), (pI (pI σ i 0 a0) i 1 a1))
  else some ((0 : Int32), σ))))
def fX3_take_154 (i : Nat)  (t0 : Int32) (σ : Mm) : Option (Int32 × Mm) :=
  (fX3_tellNumber i (2 : Int32) ((5 : Int32) + t0) σ).bind (fun q_1 => (if q_1.1 &&& 1 = q_1.1 then some (q_1.1, q_1.2) else none))
def fX3_take (i : Nat) (a1 : Int32) (a2 : Int32) (σ : Mm) : Option (Int32 × Mm) :=
  (fX2_at a1 σ).bind (fun q_1 => (if q_1 = (99 : Int32) then (fX2_numberAt (a1 + (1 : Int32)) (a2 - (1 : Int32)) σ).bind (fun q_19 => (fX3_tellNumber i (1 : Int32) q_19 σ).bind (fun q_20 => (if q_20.1 &&& 1 = q_20.1 then some (q_20.1, q_20.2) else none)))
  else (if q_1 = (102 : Int32) then (fX3_takeFamily i (a1 + (1 : Int32)) (a2 - (1 : Int32)) σ).bind (fun q_17 => (if q_17.1 &&& 1 = q_17.1 then some (q_17.1, q_17.2) else none))
  else (if q_1 = (108 : Int32) then (fX2_kindAt (a1 + (1 : Int32)) σ).bind (fun q_13 => (fX2_numberAt (a1 + (2 : Int32)) (a2 - (1 : Int32)) σ).bind (fun q_14 => (fX3_takeLaw i q_13 q_14 σ).bind (fun q_15 => (if q_15.1 &&& 1 = q_15.1 then some (q_15.1, q_15.2) else none))))
  else (if q_1 = (109 : Int32) then (fX2_numberAt (a1 + (1 : Int32)) (a2 - (1 : Int32)) σ).bind (fun q_10 => (fX3_tellNumber i (0 : Int32) q_10 σ).bind (fun q_11 => (if q_11.1 &&& 1 = q_11.1 then some (q_11.1, q_11.2) else none)))
  else (if q_1 = (110 : Int32) then (fX2_numberAt (a1 + (2 : Int32)) (a2 - (1 : Int32)) σ).bind (fun q_7 => (fX2_at (a1 + (1 : Int32)) σ).bind (fun q_8 => (if q_8 = (45 : Int32) then fX3_take_154 i (-q_7) σ
  else fX3_take_154 i q_7 σ)))
  else some ((0 : Int32), σ)))))))
def fX3_stopPlace_60 (i : Nat) (σ : Mm) (K9 : Int32 → Int32 → Int32 → Int32 → Int32 → Int32 → Option Int32) (v1 : Int32) (v2 : Int32) (v3 : Int32) (v4 : Int32) (v6 : Int32) (t0 : Int32) : Option Int32 :=
  (if (gI σ i 2) ≤ (v6 + (1 : Int32)) then some v6
  else (fX5_lawStops v1 (gI σ i 1) v4 ((v6 + (1 : Int32)) - v4) t0).bind (fun q_2 => (if q_2 = 0 then K9 v1 v2 v3 v4 t0 (v6 + (1 : Int32))
  else some v6)))
def fX3_stopPlace_44 (i : Nat) (σ : Mm) (K9 : Int32 → Int32 → Int32 → Int32 → Int32 → Int32 → Option Int32) (v1 : Int32) (v2 : Int32) (v3 : Int32) (v5 : Int32) (v6 : Int32) (v7 : Int32) (t0 : Int32) (t1 : Int32) : Option Int32 :=
  (if v7 = 0 then fX3_stopPlace_60 i σ K9 v1 v2 v3 (t1 + t0) v6 (0 : Int32)
  else fX3_stopPlace_60 i σ K9 v1 v2 v3 (t1 + t0) v6 (v5 + (1 : Int32)))
def fX3_stopPlace_30 (i : Nat) (σ : Mm) (K9 : Int32 → Int32 → Int32 → Int32 → Int32 → Int32 → Option Int32) (v1 : Int32) (v2 : Int32) (v3 : Int32) (v4 : Int32) (v5 : Int32) (v6 : Int32) (t0 : Int32) : Option Int32 :=
  (if t0 = 0 then fX3_stopPlace_44 i σ K9 v1 v2 v3 v5 v6 t0 (0 : Int32) v4
  else fX3_stopPlace_44 i σ K9 v1 v2 v3 v5 v6 t0 (1 : Int32) v4)
def fX3_stopPlace_9 (i : Nat) (σ : Mm)  : Nat → Int32 → Int32 → Int32 → Int32 → Int32 → Int32 → Option Int32
  | 0, _, _, _, _, _, _ => none
  | n + 1, v1, v2, v3, v4, v5, v6 => (if v2 ≤ v6 then some v2
  else (if ((v3 >>> (v6 &&& 31)) &&& (1 : Int32)) = (1 : Int32) then fX3_stopPlace_30 i σ (fun wv1 wv2 wv3 wv4 wv5 wv6 => fX3_stopPlace_9 i σ n wv1 wv2 wv3 wv4 wv5 wv6) v1 v2 v3 v4 v5 v6 (1 : Int32)
  else fX3_stopPlace_30 i σ (fun wv1 wv2 wv3 wv4 wv5 wv6 => fX3_stopPlace_9 i σ n wv1 wv2 wv3 wv4 wv5 wv6) v1 v2 v3 v4 v5 v6 (0 : Int32)))
def fX3_stopPlace (i : Nat) (a0 : Int32) (a1 : Int32) (a2 : Int32) (σ : Mm) : Option Int32 :=
  fX3_stopPlace_9 i σ 1000 a0 a1 a2 (0 : Int32) (0 : Int32) (0 : Int32)
def fX3_endsAllSeen_2 (i : Nat) (σ : Mm)  : Nat → Int32 → Int32 → Option Int32
  | 0, _, _ => none
  | n + 1, v1, v2 => (if (gI σ i 5) ≤ v2 then some (1 : Int32)
  else (fX3_lengthOf i v2 σ).bind (fun q_2 => (fX3_sortsOf i v2 σ).bind (fun q_3 => (fX3_stopPlace i v1 q_2 q_3 σ).bind (fun q_4 => (fX3_lengthOf i v2 σ).bind (fun q_5 => (if q_4 = (q_5 - (1 : Int32)) then fX3_endsAllSeen_2 i σ n v1 (v2 + (1 : Int32))
  else some (0 : Int32)))))))
def fX3_endsAllSeen (i : Nat) (a0 : Int32) (σ : Mm) : Option Int32 :=
  fX3_endsAllSeen_2 i σ 1000 a0 (0 : Int32)
def fX3_countStoppedAhead_40 (i : Nat) (σ : Mm) (K4 : Int32 → Int32 → Int32 → Option Int32) (v1 : Int32) (v2 : Int32) (v3 : Int32) : Option Int32 :=
  K4 v1 v2 (v3 + (1 : Int32))
def fX3_countStoppedAhead_4 (i : Nat) (σ : Mm)  : Nat → Int32 → Int32 → Int32 → Option Int32
  | 0, _, _, _ => none
  | n + 1, v1, v2, v3 => (if (gI σ i 5) ≤ v3 then some v2
  else (fX3_lengthOf i v3 σ).bind (fun q_2 => (fX3_sortsOf i v3 σ).bind (fun q_3 => (fX3_stopPlace i v1 q_2 q_3 σ).bind (fun q_4 => (fX3_lengthOf i v3 σ).bind (fun q_5 => (if (q_5 - (1 : Int32)) ≤ q_4 then fX3_countStoppedAhead_40 i σ (fun wv1 wv2 wv3 => fX3_countStoppedAhead_4 i σ n wv1 wv2 wv3) v1 v2 v3
  else fX3_countStoppedAhead_40 i σ (fun wv1 wv2 wv3 => fX3_countStoppedAhead_4 i σ n wv1 wv2 wv3) v1 (v2 + (1 : Int32)) v3))))))
def fX3_countStoppedAhead (i : Nat) (a0 : Int32) (σ : Mm) : Option Int32 :=
  fX3_countStoppedAhead_4 i σ 1000 a0 (0 : Int32) (0 : Int32)
def fX5_refuse (a0 : Int32) (σ : Mm) : Option (Int32 × Mm) :=
  (if ((-1 : Int32) - a0) < 0 then some (a0, σ)
  else (if (6 : Int32) ≤ ((-1 : Int32) - a0) then some (a0, σ)
  else (if ci ((-1 : Int32) - a0) 6 = true then (if ci ((-1 : Int32) - a0) 6 = true then some (a0, (pI σ 12 ((-1 : Int32) - a0).toNatClampNeg ((gI σ 12 ((-1 : Int32) - a0).toNatClampNeg) + (1 : Int32)))) else none) else none)))
def fX5_letter_30   (σ : Mm) : Option (Int32 × Mm) :=
  (fX5_refuse (-6 : Int32) σ).bind (fun q_1 => some (q_1.1, q_1.2))
def fX5_letter (a0 : Int32) (σ : Mm) : Option (Int32 × Mm) :=
  (if 0 ≤ a0 then (if (255 : Int32) < a0 then fX5_letter_30 σ
  else (if (gI σ 10 1) < (64 : Int32) then (fX2_append a0 σ).bind (fun q_4 => some ((gI q_4 10 1), q_4))
  else fX5_letter_30 σ))
  else (fX5_refuse (-4 : Int32) σ).bind (fun q_5 => some (q_5.1, q_5.2)))
def fX5_tellText_71   (v2 : Int32) (σ : Mm) : Option (Int32 × Mm) :=
  (fX3_copy 1 4 σ).bind (fun q_1 => some (v2, q_1))
def fX5_tellText_15   : Nat → Int32 → Int32 → Mm → Option (Int32 × Mm)
  | 0, _, _, _ => none
  | n + 1, v1, v2, σ => (if (gI σ 10 1) ≤ v1 then fX5_tellText_71 v2 σ
  else (if (64 : Int32) ≤ v2 then fX5_tellText_71 v2 σ
  else (fX2_endOfStatement v1 σ).bind (fun q_4 => (fX3_take 4 v1 q_4 σ).bind (fun q_5 => (if q_5.1 = 0 then some (((-2000 : Int32) - v1), q_5.2)
  else fX5_tellText_15 n q_4 (v2 + (1 : Int32)) q_5.2)))))
def fX5_tellText  (σ : Mm) : Option (Int32 × Mm) :=
  (fX3_copy 4 1 σ).bind (fun q_1 => fX5_tellText_15 1000 (0 : Int32) (0 : Int32) q_1)
def fX5_land  (σ : Mm) : Option (Int32 × Mm) :=
  (fX2_firstFault σ).bind (fun q_1 => (if q_1 < 0 then (fX5_tellText σ).bind (fun q_3 => some (q_3.1, (pI q_3.2 10 1 (0 : Int32))))
  else some (((-1000 : Int32) - q_1), (pI σ 10 1 (0 : Int32)))))
def fX5_law_10   (σ : Mm) : Option (Int32 × Mm) :=
  (fX5_refuse (-2 : Int32) σ).bind (fun q_1 => some (q_1.1, q_1.2))
def fX5_law (a0 : Int32) (a1 : Int32) (σ : Mm) : Option (Int32 × Mm) :=
  (if a0 < 0 then fX5_law_10 σ
  else (if a0 < (6 : Int32) then (if (1 : Int32) ≤ a1 then (if a1 ≤ (9 : Int32) then some ((((10 : Int32) * (gI σ 1 0)) + (gI σ 1 1)), (pI (pI σ 1 0 a0) 1 1 a1))
  else (fX5_refuse (-6 : Int32) σ).bind (fun q_5 => some (q_5.1, q_5.2)))
  else (fX5_refuse (-4 : Int32) σ).bind (fun q_6 => some (q_6.1, q_6.2)))
  else fX5_law_10 σ))
def fX5_set_9   (σ : Mm) : Option (Int32 × Mm) :=
  (fX5_refuse (-2 : Int32) σ).bind (fun q_1 => some (q_1.1, q_1.2))
def fX5_set (a0 : Int32) (a1 : Int32) (σ : Mm) : Option (Int32 × Mm) :=
  (if a0 < 0 then fX5_set_9 σ
  else (if a0 ≤ (2 : Int32) then (fX3_least a0).bind (fun q_3 => (if q_3 ≤ a1 then (fX3_greatest a0).bind (fun q_5 => (if a1 ≤ q_5 then (fX3_number 1 a0 σ).bind (fun q_7 => (fX3_tellNumber 1 a0 a1 σ).bind (fun q_8 => some (q_7, q_8.2)))
  else (fX5_refuse (-6 : Int32) σ).bind (fun q_9 => some (q_9.1, q_9.2))))
  else (fX5_refuse (-4 : Int32) σ).bind (fun q_10 => some (q_10.1, q_10.2))))
  else fX5_set_9 σ))
def fX5_stops_12   (σ : Mm) : Option (Int32 × Mm) :=
  (fX5_refuse (-4 : Int32) σ).bind (fun q_1 => some (q_1.1, q_1.2))
def fX5_stops_37   (σ : Mm) : Option (Int32 × Mm) :=
  (fX5_refuse (-6 : Int32) σ).bind (fun q_2 => some (q_2.1, q_2.2))
def fX5_stops_65   (σ : Mm) : Option (Int32 × Mm) :=
  (fX5_refuse (-3 : Int32) σ).bind (fun q_3 => some (q_3.1, q_3.2))
def fX5_stops_72   (v1 : Int32) (v2 : Int32) (v3 : Int32) (σ : Mm) : Option (Int32 × Mm) :=
  (fX5_lawStops (gI σ 1 0) (gI σ 1 1) v1 v2 v3).bind (fun q_4 => (if q_4 = 0 then some ((0 : Int32), σ)
  else some ((1 : Int32), σ)))
def fX5_stops_57   (v1 : Int32) (v2 : Int32) (v3 : Int32) (σ : Mm) : Option (Int32 × Mm) :=
  (if v3 = 0 then (if v2 = 0 then fX5_stops_65 σ
  else fX5_stops_72 v1 v2 v3 σ)
  else fX5_stops_72 v1 v2 v3 σ)
def fX5_stops (a0 : Int32) (a1 : Int32) (a2 : Int32) (σ : Mm) : Option (Int32 × Mm) :=
  (if a0 < 0 then fX5_stops_12 σ
  else (if a1 < 0 then fX5_stops_12 σ
  else (if 0 ≤ a2 then (if (10 : Int32) < a0 then fX5_stops_37 σ
  else (if (10 : Int32) < a1 then fX5_stops_37 σ
  else (if a2 ≤ (10 : Int32) then (if a0 < a2 then fX5_stops_65 σ
  else (if a0 = 0 then (if a1 = 0 then fX5_stops_65 σ
  else fX5_stops_57 a0 a1 a2 σ)
  else fX5_stops_57 a0 a1 a2 σ))
  else fX5_stops_37 σ)))
  else fX5_stops_12 σ)))
def fX5_greatestDivisor_9   : Nat → Int64 → Int64 → Int32 → Option Int64
  | 0, _, _, _ => none
  | n + 1, v4, v6, v8 => (if (200 : Int32) ≤ v8 then some v4
  else (if (lg_cmp v6 (0 : Int64)) = 0 then some v4
  else (if ¬ v6 = 0 then fX5_greatestDivisor_9 n v6 (v4 - v4 / v6 * v6) (v8 + (1 : Int32)) else none)))
def fX5_greatestDivisor (a0 : Int64) (a1 : Int64) : Option Int64 :=
  fX5_greatestDivisor_9 1000 a0 a1 (0 : Int32)
def fX5_fraction_26   (v4 : Int32) : Option Int64 :=
  (if v4 = 0 then some (0 : Int64)
  else some (1 : Int64))
def fX5_fraction (a0 : Int64) (a1 : Int64) (a2 : Int32) : Option Int64 :=
  (fX5_greatestDivisor a0 a1).bind (fun q_1 => (if (lg_cmp a0 (0 : Int64)) = 0 then fX5_fraction_26 a2
  else (if (lg_cmp a1 (0 : Int64)) = 0 then fX5_fraction_26 a2
  else (if (lg_cmp q_1 (0 : Int64)) = 0 then fX5_fraction_26 a2
  else (if a2 = 0 then (if ¬ q_1 = 0 then some (a0 / q_1) else none)
  else (if ¬ q_1 = 0 then some (a1 / q_1) else none))))))
def fX5_isNoSort (a0 : Int32) : Option Int32 :=
  (if a0 < 0 then some (1 : Int32)
  else (if a0 ≤ (1 : Int32) then some (0 : Int32)
  else some (1 : Int32)))
def fX5_refuseLong (a0 : Int32) (σ : Mm) : Option (Int64 × Mm) :=
  (fX5_refuse a0 σ).bind (fun q_1 => some (((4000000000000000000 : Int64) - (q_1.1.toInt64)), q_1.2))
def fX5_tallyOf_22   (v1 : Int32) (σ : Mm) : Option (Nat × Mm) :=
  (fX1_retell 32 v1 (gI σ 1 1) (gI σ 1 2) (gI σ 1 3) (gI σ 1 4) σ).bind (fun q_1 => some (32, q_1))
def fX5_tallyOf (a0 : Int32) (σ : Mm) : Option (Nat × Mm) :=
  (if a0 < 0 then fX5_tallyOf_22 a0 σ
  else (if (6 : Int32) ≤ a0 then fX5_tallyOf_22 a0 σ
  else (if ci a0 6 = true then (fX1_retell (14 + 3 * a0.toNatClampNeg) a0 (gI σ 1 1) (gI σ 1 2) (gI σ 1 3) (gI σ 1 4) σ).bind (fun q_4 => some ((14 + 3 * a0.toNatClampNeg), q_4)) else none)))
def fX5_tallyNow  (σ : Mm) : Option (Nat × Mm) :=
  (fX5_tallyOf (gI σ 1 0) σ).bind (fun q_1 => (if isTal q_1.1 = true then some (q_1.1, q_1.2) else none))
def fX5_mean_16   (σ : Mm) : Option (Int64 × Mm) :=
  (fX5_refuseLong (-2 : Int32) σ).bind (fun q_1 => some (q_1.1, q_1.2))
def fX5_mean (a0 : Int32) (a1 : Int32) (σ : Mm) : Option (Int64 × Mm) :=
  (if a0 < 0 then fX5_mean_16 σ
  else (if (2 : Int32) < a0 then fX5_mean_16 σ
  else (fX5_isNoSort a1).bind (fun q_3 => (if q_3 = 0 then (fX5_tallyNow σ).bind (fun q_5 => (if isTal q_5.1 = true then (fX1_sum q_5.1 a0 (0 : Int32) q_5.2).bind (fun q_7 => (fX5_fraction q_7 (61917364224 : Int64) a1).bind (fun q_8 => some (q_8, q_5.2))) else none))
  else fX5_mean_16 σ))))
def fX5_share (a0 : Int32) (σ : Mm) : Option (Int64 × Mm) :=
  (fX5_isNoSort a0).bind (fun q_1 => (if q_1 = 0 then (fX5_tallyNow σ).bind (fun q_3 => (if isTal q_3.1 = true then (fX1_sum q_3.1 (6 : Int32) (0 : Int32) q_3.2).bind (fun q_5 => (fX5_fraction q_5 (156031757844480 : Int64) a0).bind (fun q_6 => some (q_6, q_3.2))) else none))
  else (fX5_refuseLong (-2 : Int32) σ).bind (fun q_7 => some (q_7.1, q_7.2))))
def fX5_all (a0 : Int32) (σ : Mm) : Option (Int64 × Mm) :=
  (fX5_isNoSort a0).bind (fun q_1 => (if q_1 = 0 then (fX5_tallyNow σ).bind (fun q_3 => (if isTal q_3.1 = true then (fX1_sum q_3.1 (1 : Int32) (0 : Int32) q_3.2).bind (fun q_5 => (fX1_sum q_3.1 (0 : Int32) (0 : Int32) q_3.2).bind (fun q_6 => (fX5_fraction q_5 q_6 a0).bind (fun q_7 => some (q_7, q_3.2)))) else none))
  else (fX5_refuseLong (-2 : Int32) σ).bind (fun q_8 => some (q_8.1, q_8.2))))
def fX5_more_16   (σ : Mm) : Option (Int64 × Mm) :=
  (fX5_refuseLong (-2 : Int32) σ).bind (fun q_1 => some (q_1.1, q_1.2))
def fX5_more (a0 : Int32) (a1 : Int32) (σ : Mm) : Option (Int64 × Mm) :=
  (if a0 < 0 then fX5_more_16 σ
  else (if (2 : Int32) < a0 then fX5_more_16 σ
  else (fX5_isNoSort a1).bind (fun q_3 => (if q_3 = 0 then (fX5_tallyNow σ).bind (fun q_5 => (if isTal q_5.1 = true then (fX1_sum q_5.1 ((3 : Int32) + a0) (0 : Int32) q_5.2).bind (fun q_7 => (fX5_fraction q_7 (61917364224 : Int64) a1).bind (fun q_8 => some (q_8, q_5.2))) else none))
  else fX5_more_16 σ))))
def fX5_size (a0 : Int32) (a1 : Int32) (σ : Mm) : Option (Int64 × Mm) :=
  (if (1 : Int32) ≤ a0 then (if a0 ≤ (10 : Int32) then (fX5_isNoSort a1).bind (fun q_3 => (if q_3 = 0 then (fX5_tallyNow σ).bind (fun q_5 => (if isTal q_5.1 = true then (fX1_sum q_5.1 (7 : Int32) a0 q_5.2).bind (fun q_7 => (fX5_fraction q_7 (61917364224 : Int64) a1).bind (fun q_8 => some (q_8, q_5.2))) else none))
  else (fX5_refuseLong (-2 : Int32) σ).bind (fun q_9 => some (q_9.1, q_9.2))))
  else (fX5_refuseLong (-6 : Int32) σ).bind (fun q_10 => some (q_10.1, q_10.2)))
  else (fX5_refuseLong (-4 : Int32) σ).bind (fun q_11 => some (q_11.1, q_11.2)))
def fX5_met_16   (σ : Mm) : Option (Int64 × Mm) :=
  (fX5_refuseLong (-2 : Int32) σ).bind (fun q_1 => some (q_1.1, q_1.2))
def fX5_met_39   (v2 : Int32) (v3 : Nat) (t0 : Int32) (σ : Mm) : Option (Int64 × Mm) :=
  (fX1_sum v3 t0 (0 : Int32) σ).bind (fun q_2 => (fX1_sum v3 (0 : Int32) (0 : Int32) σ).bind (fun q_3 => (fX5_fraction q_2 q_3 v2).bind (fun q_4 => some (q_4, σ))))
def fX5_met (a0 : Int32) (a1 : Int32) (σ : Mm) : Option (Int64 × Mm) :=
  (if a0 < 0 then fX5_met_16 σ
  else (if (1 : Int32) < a0 then fX5_met_16 σ
  else (fX5_isNoSort a1).bind (fun q_3 => (if q_3 = 0 then (fX5_tallyNow σ).bind (fun q_5 => (if isTal q_5.1 = true then (if a0 = 0 then fX5_met_39 a1 q_5.1 (8 : Int32) q_5.2
  else fX5_met_39 a1 q_5.1 (9 : Int32) q_5.2) else none))
  else fX5_met_16 σ))))
def fX5_says_8   (σ : Mm) : Option (Int64 × Mm) :=
  (fX5_refuseLong (-4 : Int32) σ).bind (fun q_1 => some (q_1.1, q_1.2))
def fX5_says_27   (σ : Mm) : Option (Int64 × Mm) :=
  (fX5_refuseLong (-6 : Int32) σ).bind (fun q_2 => some (q_2.1, q_2.2))
def fX5_says_60   (σ : Mm) : Option (Int64 × Mm) :=
  (fX5_refuseLong (-2 : Int32) σ).bind (fun q_3 => some (q_3.1, q_3.2))
def fX5_says_106   (v1 : Int32) (v4 : Int32) (v5 : Int32) (v6 : Nat) (v7 : Int32) (v8 : Int32) (t0 : Int32) (t1 : Int64) (σ : Mm) : Option (Int64 × Mm) :=
  (if v4 = 0 then (fX1_sum v6 (0 : Int32) (0 : Int32) σ).bind (fun q_7 => (fX5_fraction (t1 * (t0.toInt64)) q_7 v5).bind (fun q_8 => some (q_8, σ)))
  else (fX1_familiesFrom v6 v1 v7 v8 σ).bind (fun q_5 => (fX5_fraction q_5 (t1 * (t0.toInt64)) v5).bind (fun q_6 => some (q_6, σ))))
def fX5_says (a0 : Int32) (a1 : Int32) (a2 : Int32) (a3 : Int32) (a4 : Int32) (σ : Mm) : Option (Int64 × Mm) :=
  (if a1 < 0 then fX5_says_8 σ
  else (if 0 ≤ a2 then (if (9 : Int32) < a1 then fX5_says_27 σ
  else (if a2 ≤ (9 : Int32) then (fX5_isNoSort a0).bind (fun q_5 => (if q_5 = 0 then (if a3 < 0 then fX5_says_60 σ
  else (if (1 : Int32) < a3 then fX5_says_60 σ
  else (fX5_isNoSort a4).bind (fun q_9 => (if q_9 = 0 then (fX5_tallyNow σ).bind (fun q_11 => (if isTal q_11.1 = true then (fX1_families q_11.1 (a1 + a0) ((a2 + (1 : Int32)) - a0) q_11.2).bind (fun q_13 => (if a0 = (1 : Int32) then fX5_says_106 a0 a3 a4 q_11.1 (a1 + a0) ((a2 + (1 : Int32)) - a0) (a1 + a0) q_13 q_11.2
  else fX5_says_106 a0 a3 a4 q_11.1 (a1 + a0) ((a2 + (1 : Int32)) - a0) ((a2 + (1 : Int32)) - a0) q_13 q_11.2)) else none))
  else fX5_says_60 σ))))
  else fX5_says_60 σ))
  else fX5_says_27 σ))
  else fX5_says_8 σ))
def fX5_trial_10   (σ : Mm) : Option (Int64 × Mm) :=
  (fX5_refuseLong (-4 : Int32) σ).bind (fun q_1 => some (q_1.1, q_1.2))
def fX5_trial_29   (σ : Mm) : Option (Int64 × Mm) :=
  (fX5_refuseLong (-6 : Int32) σ).bind (fun q_2 => some (q_2.1, q_2.2))
def fX5_trial (a0 : Int32) (a1 : Int32) (a2 : Int32) (σ : Mm) : Option (Int64 × Mm) :=
  (if a0 < (1 : Int32) then fX5_trial_10 σ
  else (if (1 : Int32) ≤ a1 then (if (10 : Int32) < a0 then fX5_trial_29 σ
  else (if a1 ≤ (9 : Int32) then (fX5_isNoSort a2).bind (fun q_5 => (if q_5 = 0 then (fX1_retell 32 (2 : Int32) a1 a0 (gI σ 1 3) (gI σ 1 4) σ).bind (fun q_7 => (fX1_sum 32 (10 : Int32) a1 q_7).bind (fun q_8 => (fX5_fraction q_8 (61917364224 : Int64) a2).bind (fun q_9 => some (q_9, q_7))))
  else (fX5_refuseLong (-2 : Int32) σ).bind (fun q_10 => some (q_10.1, q_10.2))))
  else fX5_trial_29 σ))
  else fX5_trial_10 σ))
def fX5_row (a0 : Int32) (σ : Mm) : Option (Int32 × Mm) :=
  (fX5_isNoSort a0).bind (fun q_1 => (if q_1 = 0 then (if (gI σ 0 5) < (10 : Int32) then some ((gI (pI (pI σ 0 6 ((gI σ 0 6) ||| (a0 <<< ((gI σ 0 5) &&& 31)))) 0 5 ((gI (pI σ 0 6 ((gI σ 0 6) ||| (a0 <<< ((gI σ 0 5) &&& 31)))) 0 5) + (1 : Int32))) 0 5), (pI (pI σ 0 6 ((gI σ 0 6) ||| (a0 <<< ((gI σ 0 5) &&& 31)))) 0 5 ((gI (pI σ 0 6 ((gI σ 0 6) ||| (a0 <<< ((gI σ 0 5) &&& 31)))) 0 5) + (1 : Int32))))
  else (fX5_refuse (-6 : Int32) σ).bind (fun q_4 => some (q_4.1, q_4.2)))
  else (fX5_refuse (-2 : Int32) σ).bind (fun q_5 => some (q_5.1, q_5.2))))
def fJ6_bitCount_0f7a4 (a0 : Int32) : Option Int32 :=
  some ((((((((a0 - (((a0.toUInt32 >>> ((1 : Int32).toUInt32 &&& Int32.toUInt32 31)).toInt32) &&& (1431655765 : Int32))) &&& (858993459 : Int32)) + ((((a0 - (((a0.toUInt32 >>> ((1 : Int32).toUInt32 &&& Int32.toUInt32 31)).toInt32) &&& (1431655765 : Int32))).toUInt32 >>> ((2 : Int32).toUInt32 &&& Int32.toUInt32 31)).toInt32) &&& (858993459 : Int32))) + (((((a0 - (((a0.toUInt32 >>> ((1 : Int32).toUInt32 &&& Int32.toUInt32 31)).toInt32) &&& (1431655765 : Int32))) &&& (858993459 : Int32)) + ((((a0 - (((a0.toUInt32 >>> ((1 : Int32).toUInt32 &&& Int32.toUInt32 31)).toInt32) &&& (1431655765 : Int32))).toUInt32 >>> ((2 : Int32).toUInt32 &&& Int32.toUInt32 31)).toInt32) &&& (858993459 : Int32))).toUInt32 >>> ((4 : Int32).toUInt32 &&& Int32.toUInt32 31)).toInt32)) &&& (252645135 : Int32)) + (((((((a0 - (((a0.toUInt32 >>> ((1 : Int32).toUInt32 &&& Int32.toUInt32 31)).toInt32) &&& (1431655765 : Int32))) &&& (858993459 : Int32)) + ((((a0 - (((a0.toUInt32 >>> ((1 : Int32).toUInt32 &&& Int32.toUInt32 31)).toInt32) &&& (1431655765 : Int32))).toUInt32 >>> ((2 : Int32).toUInt32 &&& Int32.toUInt32 31)).toInt32) &&& (858993459 : Int32))) + (((((a0 - (((a0.toUInt32 >>> ((1 : Int32).toUInt32 &&& Int32.toUInt32 31)).toInt32) &&& (1431655765 : Int32))) &&& (858993459 : Int32)) + ((((a0 - (((a0.toUInt32 >>> ((1 : Int32).toUInt32 &&& Int32.toUInt32 31)).toInt32) &&& (1431655765 : Int32))).toUInt32 >>> ((2 : Int32).toUInt32 &&& Int32.toUInt32 31)).toInt32) &&& (858993459 : Int32))).toUInt32 >>> ((4 : Int32).toUInt32 &&& Int32.toUInt32 31)).toInt32)) &&& (252645135 : Int32)).toUInt32 >>> ((8 : Int32).toUInt32 &&& Int32.toUInt32 31)).toInt32)) + ((((((((a0 - (((a0.toUInt32 >>> ((1 : Int32).toUInt32 &&& Int32.toUInt32 31)).toInt32) &&& (1431655765 : Int32))) &&& (858993459 : Int32)) + ((((a0 - (((a0.toUInt32 >>> ((1 : Int32).toUInt32 &&& Int32.toUInt32 31)).toInt32) &&& (1431655765 : Int32))).toUInt32 >>> ((2 : Int32).toUInt32 &&& Int32.toUInt32 31)).toInt32) &&& (858993459 : Int32))) + (((((a0 - (((a0.toUInt32 >>> ((1 : Int32).toUInt32 &&& Int32.toUInt32 31)).toInt32) &&& (1431655765 : Int32))) &&& (858993459 : Int32)) + ((((a0 - (((a0.toUInt32 >>> ((1 : Int32).toUInt32 &&& Int32.toUInt32 31)).toInt32) &&& (1431655765 : Int32))).toUInt32 >>> ((2 : Int32).toUInt32 &&& Int32.toUInt32 31)).toInt32) &&& (858993459 : Int32))).toUInt32 >>> ((4 : Int32).toUInt32 &&& Int32.toUInt32 31)).toInt32)) &&& (252645135 : Int32)) + (((((((a0 - (((a0.toUInt32 >>> ((1 : Int32).toUInt32 &&& Int32.toUInt32 31)).toInt32) &&& (1431655765 : Int32))) &&& (858993459 : Int32)) + ((((a0 - (((a0.toUInt32 >>> ((1 : Int32).toUInt32 &&& Int32.toUInt32 31)).toInt32) &&& (1431655765 : Int32))).toUInt32 >>> ((2 : Int32).toUInt32 &&& Int32.toUInt32 31)).toInt32) &&& (858993459 : Int32))) + (((((a0 - (((a0.toUInt32 >>> ((1 : Int32).toUInt32 &&& Int32.toUInt32 31)).toInt32) &&& (1431655765 : Int32))) &&& (858993459 : Int32)) + ((((a0 - (((a0.toUInt32 >>> ((1 : Int32).toUInt32 &&& Int32.toUInt32 31)).toInt32) &&& (1431655765 : Int32))).toUInt32 >>> ((2 : Int32).toUInt32 &&& Int32.toUInt32 31)).toInt32) &&& (858993459 : Int32))).toUInt32 >>> ((4 : Int32).toUInt32 &&& Int32.toUInt32 31)).toInt32)) &&& (252645135 : Int32)).toUInt32 >>> ((8 : Int32).toUInt32 &&& Int32.toUInt32 31)).toInt32)).toUInt32 >>> ((16 : Int32).toUInt32 &&& Int32.toUInt32 31)).toInt32)) &&& (63 : Int32))
def fX5_latestOnes_25  (K4 : Int32 → Int32 → Int32 → Int32 → Option Int32) (v0 : Int32) (v1 : Int32) (v3 : Int32) (t0 : Int32) : Option Int32 :=
  K4 v0 v1 t0 (v3 + (1 : Int32))
def fX5_latestOnes_4   : Nat → Int32 → Int32 → Int32 → Int32 → Option Int32
  | 0, _, _, _, _ => none
  | n + 1, v0, v1, v2, v3 => (if v0 ≤ v3 then some v2
  else (if ((v1 >>> (v3 &&& 31)) &&& (1 : Int32)) = (1 : Int32) then fX5_latestOnes_25 (fun wv0 wv1 wv2 wv3 => fX5_latestOnes_4 n wv0 wv1 wv2 wv3) v0 v1 v3 (v2 + (1 : Int32))
  else fX5_latestOnes_25 (fun wv0 wv1 wv2 wv3 => fX5_latestOnes_4 n wv0 wv1 wv2 wv3) v0 v1 v3 (0 : Int32)))
def fX5_latestOnes (a0 : Int32) (a1 : Int32) : Option Int32 :=
  fX5_latestOnes_4 1000 a0 a1 (0 : Int32) (0 : Int32)
def fX5_lastInTwelfths_138 (σ : Mm)  (v1 : Int32) (v2 : Int32) (v4 : Int32) (v5 : Int32) : Option Int32 :=
  (fX5_lawStops (gI σ 1 0) (gI σ 1 1) v1 (v2 + (1 : Int32)) (0 : Int32)).bind (fun q_1 => (if q_1 = 0 then some v5
  else some (v5 + ((12 : Int32) - v4))))
def fX5_lastInTwelfths  (σ : Mm) : Option Int32 :=
  (fX3_stopPlace 1 (gI σ 1 0) (gI σ 0 5) (gI σ 0 6) σ).bind (fun q_1 => (if (gI σ 0 5) ≤ q_1 then (if ((gI σ 0 5) + (1 : Int32)) < (gI σ 1 2) then (fJ6_bitCount_0f7a4 (gI σ 0 6)).bind (fun q_4 => (fX5_latestOnes (gI σ 0 5) (gI σ 0 6)).bind (fun q_5 => (fX5_chanceOfOne (gI σ 1 3) (gI σ 1 4) (gI σ 0 5) q_5).bind (fun q_6 => (fX5_lawStops (gI σ 1 0) (gI σ 1 1) (q_4 + (1 : Int32)) ((gI σ 0 5) - q_4) (q_5 + (1 : Int32))).bind (fun q_7 => (if q_7 = 0 then fX5_lastInTwelfths_138 σ q_4 ((gI σ 0 5) - q_4) q_6 (0 : Int32)
  else fX5_lastInTwelfths_138 σ q_4 ((gI σ 0 5) - q_4) q_6 ((0 : Int32) + q_6))))))
  else some (12 : Int32))
  else some (0 : Int32)))
def fX5_gone (a0 : Int32) (σ : Mm) : Option (Int64 × Mm) :=
  (fX5_isNoSort a0).bind (fun q_1 => (if q_1 = 0 then (fX5_lastInTwelfths σ).bind (fun q_3 => (fX5_fraction (q_3.toInt64) (12 : Int64) a0).bind (fun q_4 => some (q_4, σ)))
  else (fX5_refuseLong (-2 : Int32) σ).bind (fun q_5 => some (q_5.1, q_5.2))))
def fX5_compareFractions_51   (v14 : Int64) (t0 : Int32) : Option Int32 :=
  (if (lg_cmp v14 (0 : Int64)) = 0 then some (t0 - (1 : Int32))
  else some (t0 - (0 : Int32)))
def fX5_compareFractions_39   (v10 : Int64) (v14 : Int64) : Option Int32 :=
  (if (lg_cmp v10 (0 : Int64)) = 0 then fX5_compareFractions_51 v14 (1 : Int32)
  else fX5_compareFractions_51 v14 (0 : Int32))
def fX5_compareFractions_17   : Nat → Int64 → Int64 → Int64 → Int64 → Int32 → Option Int32
  | 0, _, _, _, _, _ => none
  | n + 1, v8, v10, v12, v14, v16 => (if (200 : Int32) ≤ v16 then some (0 : Int32)
  else (if (lg_cmp v10 (0 : Int64)) = 0 then fX5_compareFractions_39 v10 v14
  else (if (lg_cmp v14 (0 : Int64)) = 0 then fX5_compareFractions_39 v10 v14
  else (if ¬ v10 = 0 then (if ¬ v14 = 0 then (if (lg_cmp (v8 / v10) (v12 / v14)) = 0 then (if ¬ v10 = 0 then (if ¬ v14 = 0 then fX5_compareFractions_17 n v14 (v12 - v12 / v14 * v14) v10 (v8 - v8 / v10 * v10) (v16 + (1 : Int32)) else none) else none)
  else (if ¬ v10 = 0 then (if ¬ v14 = 0 then (if (lg_cmp (v8 / v10) (v12 / v14)) ≤ 0 then some (-1 : Int32)
  else some (1 : Int32)) else none) else none)) else none) else none))))
def fX5_compareFractions (a0 : Int64) (a1 : Int64) (a2 : Int64) (a3 : Int64) : Option Int32 :=
  fX5_compareFractions_17 1000 a0 a1 a2 a3 (0 : Int32)
def fX5_compareAll (a0 : Int32) (a1 : Int32) (σ : Mm) : Option (Int32 × Mm) :=
  (fX5_tallyOf a0 σ).bind (fun q_1 => (if isTal q_1.1 = true then (fX5_tallyOf a1 q_1.2).bind (fun q_3 => (if isTal q_3.1 = true then (fX1_sum q_1.1 (1 : Int32) (0 : Int32) q_3.2).bind (fun q_5 => (fX1_sum q_1.1 (0 : Int32) (0 : Int32) q_3.2).bind (fun q_6 => (fX1_sum q_3.1 (1 : Int32) (0 : Int32) q_3.2).bind (fun q_7 => (fX1_sum q_3.1 (0 : Int32) (0 : Int32) q_3.2).bind (fun q_8 => (fX5_compareFractions q_5 q_6 q_7 q_8).bind (fun q_9 => some (q_9, q_3.2)))))) else none)) else none))
def fX5_shift_9   (σ : Mm) : Option (Int32 × Mm) :=
  (fX5_refuse (-2 : Int32) σ).bind (fun q_1 => some (q_1.1, q_1.2))
def fX5_shift_53  (K20 : Int32 → Int32 → Int32 → Mm → Option (Int32 × Mm)) (v1 : Int32) (v2 : Int32) (v3 : Int32) (σ : Mm) : Option (Int32 × Mm) :=
  K20 v1 v2 (v3 + (1 : Int32)) σ
def fX5_shift_51  (K20 : Int32 → Int32 → Int32 → Mm → Option (Int32 × Mm)) (v1 : Int32) (v3 : Int32) (σ : Mm) : Option (Int32 × Mm) :=
  fX5_shift_53 K20 v1 v3 v3 σ
def fX5_shift_20   : Nat → Int32 → Int32 → Int32 → Mm → Option (Int32 × Mm)
  | 0, _, _, _, _ => none
  | n + 1, v1, v2, v3, σ => (if (6 : Int32) ≤ v3 then some (v2, σ)
  else (fX5_compareAll v3 v2 σ).bind (fun q_3 => (if v1 = 0 then (if q_3.1 ≤ 0 then fX5_shift_53 (fun wv1 wv2 wv3 wσ => fX5_shift_20 n wv1 wv2 wv3 wσ) v1 v2 v3 q_3.2
  else fX5_shift_51 (fun wv1 wv2 wv3 wσ => fX5_shift_20 n wv1 wv2 wv3 wσ) v1 v3 q_3.2)
  else (if 0 ≤ q_3.1 then fX5_shift_53 (fun wv1 wv2 wv3 wσ => fX5_shift_20 n wv1 wv2 wv3 wσ) v1 v2 v3 q_3.2
  else fX5_shift_51 (fun wv1 wv2 wv3 wσ => fX5_shift_20 n wv1 wv2 wv3 wσ) v1 v3 q_3.2))))
def fX5_shift (a0 : Int32) (σ : Mm) : Option (Int32 × Mm) :=
  (if a0 < 0 then fX5_shift_9 σ
  else (if a0 ≤ (1 : Int32) then fX5_shift_20 1000 a0 (0 : Int32) (1 : Int32) σ
  else fX5_shift_9 σ))
def fX5_fits_9   (σ : Mm) : Option (Int32 × Mm) :=
  (fX5_refuse (-2 : Int32) σ).bind (fun q_1 => some (q_1.1, q_1.2))
def fX5_fits_70  (K20 : Int32 → Int32 → Int32 → Mm → Option (Int32 × Mm)) (v1 : Int32) (v2 : Int32) (v3 : Int32) (σ : Mm) : Option (Int32 × Mm) :=
  K20 v1 v2 (v3 + (1 : Int32)) σ
def fX5_fits_57  (K20 : Int32 → Int32 → Int32 → Mm → Option (Int32 × Mm)) (v1 : Int32) (v2 : Int32) (v3 : Int32) (t0 : Int32) (σ : Mm) : Option (Int32 × Mm) :=
  (if t0 = 0 then fX5_fits_70 K20 v1 v2 v3 σ
  else fX5_fits_70 K20 v1 (v2 ||| ((1 : Int32) <<< (v3 &&& 31))) v3 σ)
def fX5_fits_20   : Nat → Int32 → Int32 → Int32 → Mm → Option (Int32 × Mm)
  | 0, _, _, _, _ => none
  | n + 1, v1, v2, v3, σ => (if (6 : Int32) ≤ v3 then some (v2, σ)
  else (if v1 = 0 then (fX3_endsAllSeen 1 v3 σ).bind (fun q_7 => fX5_fits_57 (fun wv1 wv2 wv3 wσ => fX5_fits_20 n wv1 wv2 wv3 wσ) v1 v2 v3 q_7 σ)
  else (fX3_countStoppedAhead 1 v3 σ).bind (fun q_5 => (if q_5 = 0 then fX5_fits_57 (fun wv1 wv2 wv3 wσ => fX5_fits_20 n wv1 wv2 wv3 wσ) v1 v2 v3 (1 : Int32) σ
  else fX5_fits_57 (fun wv1 wv2 wv3 wσ => fX5_fits_20 n wv1 wv2 wv3 wσ) v1 v2 v3 (0 : Int32) σ))))
def fX5_fits (a0 : Int32) (σ : Mm) : Option (Int32 × Mm) :=
  (if a0 < 0 then fX5_fits_9 σ
  else (if a0 ≤ (1 : Int32) then fX5_fits_20 1000 a0 (0 : Int32) (0 : Int32) σ
  else fX5_fits_9 σ))
def fX5_judge  (σ : Mm) : Option (Int32 × Mm) :=
  (fX3_stopPlace 1 (gI σ 1 0) (gI σ 0 5) (gI σ 0 6) σ).bind (fun q_1 => (if q_1 < (gI σ 0 5) then (if q_1 = ((gI σ 0 5) - (1 : Int32)) then some ((20 : Int32), (pI (pI σ 0 5 (0 : Int32)) 0 6 (0 : Int32)))
  else some (q_1, (pI (pI σ 0 5 (0 : Int32)) 0 6 (0 : Int32))))
  else some ((-9 : Int32), (pI (pI σ 0 5 (0 : Int32)) 0 6 (0 : Int32)))))
def fX5_seen_20   (σ : Mm) : Option (Int32 × Mm) :=
  (fX5_refuse (-2 : Int32) σ).bind (fun q_1 => some (q_1.1, q_1.2))
def fX5_seen (a0 : Int32) (a1 : Int32) (σ : Mm) : Option (Int32 × Mm) :=
  (if 0 ≤ a0 then (if a1 < 0 then fX5_seen_20 σ
  else (if a1 ≤ (1 : Int32) then (if a0 < (gI σ 1 5) then (if a1 = 0 then (fX3_lengthOf 1 a0 σ).bind (fun q_7 => some (q_7, σ))
  else (fX3_sortsOf 1 a0 σ).bind (fun q_6 => some (q_6, σ)))
  else some ((-9 : Int32), σ))
  else fX5_seen_20 σ))
  else (fX5_refuse (-4 : Int32) σ).bind (fun q_8 => some (q_8.1, q_8.2)))
def fX5_cheats  (σ : Mm) : Option Int32 :=
  (fX3_countStoppedAhead 1 (gI σ 1 0) σ).bind (fun q_1 => some q_1)
def fX5_countLots_182 (σ : Mm) (K9 : Int32 → Int32 → Int32 → Int32 → Int32 → Option Int32) (v1 : Int32) (v3 : Int32) (v4 : Int32) (v6 : Int32) (t0 : Int32) (t1 : Int32) : Option Int32 :=
  K9 v1 v3 v4 (t1 + t0) (v6 + (1 : Int32))
def fX5_countLots_165 (σ : Mm) (K9 : Int32 → Int32 → Int32 → Int32 → Int32 → Option Int32) (v1 : Int32) (v3 : Int32) (v4 : Int32) (v5 : Int32) (v6 : Int32) (v7 : Int32) (v9 : Int32) : Option Int32 :=
  (if v3 = (1 : Int32) then fX5_countLots_182 σ K9 v1 v3 v4 v6 v7 v5
  else fX5_countLots_182 σ K9 v1 v3 v4 v6 (v9 - v7) v5)
def fX5_countLots_132 (σ : Mm) (K9 : Int32 → Int32 → Int32 → Int32 → Int32 → Option Int32) (K27 : Int32 → Int32 → Int32 → Int32 → Int32 → Int32 → Int32 → Int32 → Int32 → Option Int32) (v1 : Int32) (v3 : Int32) (v4 : Int32) (v5 : Int32) (v6 : Int32) (v7 : Int32) (v9 : Int32) (t0 : Int32) : Option Int32 :=
  (fX5_lawStops (gI σ 1 0) (gI σ 1 1) v7 (v9 - v7) t0).bind (fun q_2 => K27 v1 v3 v4 v5 v6 v7 t0 v9 q_2)
def fX5_countLots_116 (σ : Mm) (K9 : Int32 → Int32 → Int32 → Int32 → Int32 → Option Int32) (K27 : Int32 → Int32 → Int32 → Int32 → Int32 → Int32 → Int32 → Int32 → Int32 → Option Int32) (v1 : Int32) (v3 : Int32) (v4 : Int32) (v5 : Int32) (v6 : Int32) (v8 : Int32) (v9 : Int32) (v12 : Int32) (t0 : Int32) (t1 : Int32) : Option Int32 :=
  (if v12 = 0 then fX5_countLots_132 σ K9 K27 v1 v3 v4 v5 v6 (t1 + t0) v9 (0 : Int32)
  else fX5_countLots_132 σ K9 K27 v1 v3 v4 v5 v6 (t1 + t0) v9 (v8 + (1 : Int32)))
def fX5_countLots_99 (σ : Mm) (K9 : Int32 → Int32 → Int32 → Int32 → Int32 → Option Int32) (K27 : Int32 → Int32 → Int32 → Int32 → Int32 → Int32 → Int32 → Int32 → Int32 → Option Int32) (v1 : Int32) (v3 : Int32) (v4 : Int32) (v5 : Int32) (v6 : Int32) (v7 : Int32) (v8 : Int32) (v9 : Int32) (t0 : Int32) : Option Int32 :=
  (if t0 = 0 then fX5_countLots_116 σ K9 K27 v1 v3 v4 v5 v6 v8 (v9 + (1 : Int32)) t0 (0 : Int32) v7
  else fX5_countLots_116 σ K9 K27 v1 v3 v4 v5 v6 v8 (v9 + (1 : Int32)) t0 (1 : Int32) v7)
def fX5_countLots_27 (σ : Mm) (K9 : Int32 → Int32 → Int32 → Int32 → Int32 → Option Int32) : Nat → Int32 → Int32 → Int32 → Int32 → Int32 → Int32 → Int32 → Int32 → Int32 → Option Int32
  | 0, _, _, _, _, _, _, _, _, _ => none
  | n + 1, v1, v3, v4, v5, v6, v7, v8, v9, v10 => (if (gI σ 1 2) ≤ v9 then fX5_countLots_165 σ K9 v1 v3 v4 v5 v6 v7 v9
  else (if v10 = 0 then (fX5_chanceOfOne (gI σ 1 3) (gI σ 1 4) v9 v8).bind (fun q_7 => (if q_7 ≤ (((((v4 * (1664525 : Int32)) + (1013904223 : Int32)) &&& (2147483647 : Int32)) / (256 : Int32)) - ((((v4 * (1664525 : Int32)) + (1013904223 : Int32)) &&& (2147483647 : Int32)) / (256 : Int32)) / (12 : Int32) * (12 : Int32)) then fX5_countLots_99 σ K9 (fun wv1 wv3 wv4 wv5 wv6 wv7 wv8 wv9 wv10 => fX5_countLots_27 σ K9 n wv1 wv3 wv4 wv5 wv6 wv7 wv8 wv9 wv10) v1 v3 ((v4 * (1664525 : Int32)) + (1013904223 : Int32)) v5 v6 v7 v8 v9 (0 : Int32)
  else fX5_countLots_99 σ K9 (fun wv1 wv3 wv4 wv5 wv6 wv7 wv8 wv9 wv10 => fX5_countLots_27 σ K9 n wv1 wv3 wv4 wv5 wv6 wv7 wv8 wv9 wv10) v1 v3 ((v4 * (1664525 : Int32)) + (1013904223 : Int32)) v5 v6 v7 v8 v9 (1 : Int32)))
  else fX5_countLots_165 σ K9 v1 v3 v4 v5 v6 v7 v9))
def fX5_countLots_9 (σ : Mm)  : Nat → Int32 → Int32 → Int32 → Int32 → Int32 → Option Int32
  | 0, _, _, _, _, _ => none
  | n + 1, v1, v3, v4, v5, v6 => (if v1 ≤ v6 then some v5
  else fX5_countLots_27 σ (fun wv1 wv3 wv4 wv5 wv6 => fX5_countLots_9 σ n wv1 wv3 wv4 wv5 wv6) 1000 v1 v3 v4 v5 v6 (0 : Int32) (0 : Int32) (0 : Int32) (0 : Int32))
def fX5_countLots (a0 : Int32) (a1 : Int32) (a2 : Int32) (σ : Mm) : Option Int32 :=
  fX5_countLots_9 σ 1000 a0 a2 a1 (0 : Int32) (0 : Int32)
def fX5_lots (a0 : Int32) (a1 : Int32) (a2 : Int32) (σ : Mm) : Option (Int32 × Mm) :=
  (if (1 : Int32) ≤ a0 then (if a0 ≤ (40 : Int32) then (fX5_isNoSort a2).bind (fun q_3 => (if q_3 = 0 then (fX5_countLots a0 a1 a2 σ).bind (fun q_5 => some (q_5, σ))
  else (fX5_refuse (-2 : Int32) σ).bind (fun q_6 => some (q_6.1, q_6.2))))
  else (fX5_refuse (-6 : Int32) σ).bind (fun q_7 => some (q_7.1, q_7.2)))
  else (fX5_refuse (-4 : Int32) σ).bind (fun q_8 => some (q_8.1, q_8.2)))
def fX5_image  (σ : Mm) : Option (Int32 × Mm) :=
  (fX3_copy 7 1 σ).bind (fun q_1 => some ((gI (pI q_1 0 3 (1 : Int32)) 7 5), (pI q_1 0 3 (1 : Int32))))
def fX5_on  (σ : Mm) : Option (Int32 × Mm) :=
  (if (gI σ 0 3) = 0 then (fX5_refuse (-3 : Int32) σ).bind (fun q_3 => some (q_3.1, q_3.2))
  else (fX3_copy 1 7 σ).bind (fun q_2 => some ((gI q_2 1 5), q_2)))
def fX5_count (a0 : Int32) (σ : Mm) : Option Int32 :=
  (if a0 = (0 : Int32) then (fX3_number 1 a0 σ).bind (fun q_14 => some q_14)
  else (if a0 = (1 : Int32) then (fX3_number 1 a0 σ).bind (fun q_13 => some q_13)
  else (if a0 = (2 : Int32) then (fX3_number 1 a0 σ).bind (fun q_12 => some q_12)
  else (if a0 = (3 : Int32) then some (gI σ 1 0)
  else (if a0 = (4 : Int32) then some (gI σ 1 1)
  else (if a0 = (5 : Int32) then some (gI σ 1 5)
  else (if a0 = (6 : Int32) then some (gI σ 0 5)
  else (if a0 = (7 : Int32) then some (gI σ 10 1)
  else (if a0 ≤ (10 : Int32) then some (-9 : Int32)
  else (if (6 : Int32) ≤ (a0 - (11 : Int32)) then some (-9 : Int32)
  else (if ci (a0 - (11 : Int32)) 6 = true then some (gI σ 12 (a0 - (11 : Int32)).toNatClampNeg) else none)))))))))))
def fX6_refuse (a0 : Int32) (σ : Mm) : Option (Int32 × Mm) :=
  (if ci (-a0) 7 = true then (if ci (-a0) 7 = true then some (a0, (pI σ 1 (-a0).toNatClampNeg ((gI σ 1 (-a0).toNatClampNeg) + (1 : Int32)))) else none) else none)
def fX6_refuseWide (a0 : Int32) (σ : Mm) : Option (Int64 × Mm) :=
  (fX6_refuse a0 σ).bind (fun q_1 => some (((4000000000000000000 : Int64) - (q_1.1.toInt64)), q_1.2))
def fX6_isIn (a0 : Int32) (a1 : Int32) : Option Int32 :=
  (if a0 < 0 then some (0 : Int32)
  else (if a1 ≤ a0 then some (0 : Int32)
  else some (1 : Int32)))
def fX6_within (a0 : Int32) (a1 : Int32) (a2 : Int32) : Option Int32 :=
  (if a1 ≤ a0 then (if a0 ≤ a2 then some (0 : Int32)
  else some (-6 : Int32))
  else some (-4 : Int32))
def fX6_lays_2 (j : Nat) (k : Nat)  : Nat → Int32 → Mm → Option Mm
  | 0, _, _ => none
  | n + 1, v2, σ => (if (22 : Int32) ≤ v2 then some σ
  else (if ci v2 22 = true then (if ci v2 22 = true then fX6_lays_2 j k n (v2 + (1 : Int32)) (pI σ k v2.toNatClampNeg (gI σ j v2.toNatClampNeg)) else none) else none))
def fX6_lays (j : Nat) (k : Nat) (σ : Mm) : Option Mm :=
  fX6_lays_2 j k 1000 (0 : Int32) σ
def fX6_letter_25   (v1 : Int32) (v2 : Int32) (σ : Mm) : Option (Int32 × Mm) :=
  (if v2 = 0 then (if ci (gI σ 0 7) 64 = true then some ((gI (pI (pI σ 5 (gI σ 0 7).toNatClampNeg v1) 0 7 ((gI (pI σ 5 (gI σ 0 7).toNatClampNeg v1) 0 7) + (1 : Int32))) 0 7), (pI (pI σ 5 (gI σ 0 7).toNatClampNeg v1) 0 7 ((gI (pI σ 5 (gI σ 0 7).toNatClampNeg v1) 0 7) + (1 : Int32)))) else none)
  else (fX6_refuse v2 σ).bind (fun q_3 => some (q_3.1, q_3.2)))
def fX6_letter (a0 : Int32) (σ : Mm) : Option (Int32 × Mm) :=
  (fX6_within a0 (0 : Int32) (255 : Int32)).bind (fun q_1 => (if q_1 = 0 then (if (gI σ 0 7) = (64 : Int32) then fX6_letter_25 a0 (-6 : Int32) σ
  else fX6_letter_25 a0 q_1 σ)
  else fX6_letter_25 a0 q_1 σ))
def fX6_sign  (σ : Mm) : Option Int32 :=
  (if (gI σ 0 7) ≤ (gI σ 0 8) then some (-1 : Int32)
  else (if ci (gI σ 0 8) 64 = true then some (gI σ 5 (gI σ 0 8).toNatClampNeg) else none))
def fX6_takes (a0 : Int32) (σ : Mm) : Option (Int32 × Mm) :=
  (fX6_sign σ).bind (fun q_1 => (if q_1 = a0 then some ((1 : Int32), (pI σ 0 8 ((gI σ 0 8) + (1 : Int32))))
  else some ((0 : Int32), σ)))
def fX6_readsNumber_68   (v3 : Int32) (σ : Mm) : Option (Int32 × Mm) :=
  (if v3 ≤ 0 then some ((0 : Int32), σ)
  else some ((1 : Int32), σ))
def fX6_readsNumber_9   : Nat → Int32 → Int32 → Int32 → Mm → Option (Int32 × Mm)
  | 0, _, _, _, _ => none
  | n + 1, v1, v2, v3, σ => (if v2 ≤ v3 then fX6_readsNumber_68 v3 σ
  else (fX6_sign σ).bind (fun q_3 => (fX6_isIn (q_3 - (48 : Int32)) (10 : Int32)).bind (fun q_4 => (if q_4 = 0 then fX6_readsNumber_68 v3 σ
  else (if ci v1 2 = true then (fX6_sign σ).bind (fun q_7 => (if ci v1 2 = true then fX6_readsNumber_9 n v1 v2 (v3 + (1 : Int32)) (pI (pI σ 6 v1.toNatClampNeg ((((10 : Int32) * (gI σ 6 v1.toNatClampNeg)) + q_7) - (48 : Int32))) 0 8 ((gI (pI σ 6 v1.toNatClampNeg ((((10 : Int32) * (gI σ 6 v1.toNatClampNeg)) + q_7) - (48 : Int32))) 0 8) + (1 : Int32))) else none)) else none)))))
def fX6_readsNumber (a0 : Int32) (a1 : Int32) (σ : Mm) : Option (Int32 × Mm) :=
  (if ci a0 2 = true then fX6_readsNumber_9 1000 a0 a1 (0 : Int32) (pI σ 6 a0.toNatClampNeg (0 : Int32)) else none)
def fX6_kindOf (a0 : Int32) : Option Int32 :=
  (if a0 = (97 : Int32) then some (2 : Int32)
  else (if a0 = (98 : Int32) then some (5 : Int32)
  else (if a0 = (99 : Int32) then some (1 : Int32)
  else (if a0 = (101 : Int32) then some (3 : Int32)
  else (if a0 = (114 : Int32) then some (4 : Int32)
  else (if a0 = (116 : Int32) then some (0 : Int32)
  else some (-9 : Int32)))))))
def fX6_readsKind  (σ : Mm) : Option (Int32 × Mm) :=
  (fX6_sign σ).bind (fun q_1 => (fX6_kindOf q_1).bind (fun q_2 => (if ci (0 : Int32) 2 = true then (if ci (0 : Int32) 2 = true then (if 0 ≤ (gI (pI σ 6 (0 : Int32).toNatClampNeg q_2) 6 (0 : Int32).toNatClampNeg) then (fX6_readsNumber (1 : Int32) (1 : Int32) (pI (pI σ 6 (0 : Int32).toNatClampNeg q_2) 0 8 ((gI (pI σ 6 (0 : Int32).toNatClampNeg q_2) 0 8) + (1 : Int32)))).bind (fun q_6 => (if q_6.1 &&& 1 = q_6.1 then some (q_6.1, q_6.2) else none))
  else some ((0 : Int32), (pI σ 6 (0 : Int32).toNatClampNeg q_2))) else none) else none)))
def fX6_readsLean_19   (v1 : Int32) (σ : Mm) : Option (Int32 × Mm) :=
  (fX6_readsNumber (0 : Int32) (1 : Int32) (pI σ 0 8 ((gI σ 0 8) + (1 : Int32)))).bind (fun q_1 => (if q_1.1 = 0 then some ((0 : Int32), q_1.2)
  else (if v1 = (45 : Int32) then (if ci (0 : Int32) 2 = true then (if ci (0 : Int32) 2 = true then some ((1 : Int32), (pI q_1.2 6 (0 : Int32).toNatClampNeg (-(gI q_1.2 6 (0 : Int32).toNatClampNeg)))) else none) else none)
  else (if ci (0 : Int32) 2 = true then (if ci (0 : Int32) 2 = true then some ((1 : Int32), (pI q_1.2 6 (0 : Int32).toNatClampNeg (gI q_1.2 6 (0 : Int32).toNatClampNeg))) else none) else none))))
def fX6_readsLean  (σ : Mm) : Option (Int32 × Mm) :=
  (fX6_sign σ).bind (fun q_1 => (if q_1 = (43 : Int32) then fX6_readsLean_19 q_1 σ
  else (if q_1 = (45 : Int32) then fX6_readsLean_19 q_1 σ
  else some ((0 : Int32), σ))))
def fX6_readsFamily_89   (σ : Mm) : Option (Int32 × Mm) :=
  (if ci (0 : Int32) 2 = true then (if (gI σ 6 (0 : Int32).toNatClampNeg) ≤ 0 then some ((0 : Int32), σ)
  else some ((1 : Int32), σ)) else none)
def fX6_readsFamily_43  (K14 : Mm → Option (Int32 × Mm)) (σ : Mm) : Option (Int32 × Mm) :=
  (if ci (1 : Int32) 2 = true then (fX6_sign σ).bind (fun q_4 => (if ci (0 : Int32) 2 = true then (if ci (1 : Int32) 2 = true then (if ci (0 : Int32) 2 = true then (if ci (0 : Int32) 2 = true then K14 (pI (pI (pI σ 6 (1 : Int32).toNatClampNeg ((gI σ 6 (1 : Int32).toNatClampNeg) ||| ((q_4 - (48 : Int32)) <<< ((gI σ 6 (0 : Int32).toNatClampNeg) &&& 31)))) 6 (0 : Int32).toNatClampNeg ((gI (pI σ 6 (1 : Int32).toNatClampNeg ((gI σ 6 (1 : Int32).toNatClampNeg) ||| ((q_4 - (48 : Int32)) <<< ((gI σ 6 (0 : Int32).toNatClampNeg) &&& 31)))) 6 (0 : Int32).toNatClampNeg) + (1 : Int32))) 0 8 ((gI (pI (pI σ 6 (1 : Int32).toNatClampNeg ((gI σ 6 (1 : Int32).toNatClampNeg) ||| ((q_4 - (48 : Int32)) <<< ((gI σ 6 (0 : Int32).toNatClampNeg) &&& 31)))) 6 (0 : Int32).toNatClampNeg ((gI (pI σ 6 (1 : Int32).toNatClampNeg ((gI σ 6 (1 : Int32).toNatClampNeg) ||| ((q_4 - (48 : Int32)) <<< ((gI σ 6 (0 : Int32).toNatClampNeg) &&& 31)))) 6 (0 : Int32).toNatClampNeg) + (1 : Int32))) 0 8) + (1 : Int32))) else none) else none) else none) else none)) else none)
def fX6_readsFamily_14   : Nat → Mm → Option (Int32 × Mm)
  | 0, _ => none
  | n + 1, σ => (if ci (0 : Int32) 2 = true then (if (10 : Int32) ≤ (gI σ 6 (0 : Int32).toNatClampNeg) then fX6_readsFamily_89 σ
  else (fX6_sign σ).bind (fun q_11 => (if q_11 = (48 : Int32) then fX6_readsFamily_43 (fun wσ => fX6_readsFamily_14 n wσ) σ
  else (fX6_sign σ).bind (fun q_13 => (if q_13 = (49 : Int32) then fX6_readsFamily_43 (fun wσ => fX6_readsFamily_14 n wσ) σ
  else fX6_readsFamily_89 σ))))) else none)
def fX6_readsFamily  (σ : Mm) : Option (Int32 × Mm) :=
  (if ci (0 : Int32) 2 = true then (if ci (1 : Int32) 2 = true then fX6_readsFamily_14 1000 (pI (pI σ 6 (0 : Int32).toNatClampNeg (0 : Int32)) 6 (1 : Int32).toNatClampNeg (0 : Int32)) else none) else none)
def fX6_readsStatement_126   (v2 : Int32) (σ : Mm) : Option (Int32 × Mm) :=
  (if v2 = 0 then some ((0 : Int32), σ)
  else (fX6_takes (59 : Int32) σ).bind (fun q_2 => (if q_2.1 = 0 then some ((0 : Int32), q_2.2)
  else some ((1 : Int32), q_2.2))))
def fX6_readsStatement  (σ : Mm) : Option (Int32 × Mm) :=
  (fX6_sign σ).bind (fun q_1 => (if q_1 = (99 : Int32) then (fX6_readsNumber (0 : Int32) (2 : Int32) (pI σ 0 8 ((gI σ 0 8) + (1 : Int32)))).bind (fun q_11 => fX6_readsStatement_126 q_11.1 q_11.2)
  else (if q_1 = (102 : Int32) then (fX6_readsFamily (pI σ 0 8 ((gI σ 0 8) + (1 : Int32)))).bind (fun q_10 => fX6_readsStatement_126 q_10.1 q_10.2)
  else (if q_1 = (108 : Int32) then (fX6_readsKind (pI σ 0 8 ((gI σ 0 8) + (1 : Int32)))).bind (fun q_9 => fX6_readsStatement_126 q_9.1 q_9.2)
  else (if q_1 = (109 : Int32) then (fX6_readsNumber (0 : Int32) (2 : Int32) (pI σ 0 8 ((gI σ 0 8) + (1 : Int32)))).bind (fun q_8 => fX6_readsStatement_126 q_8.1 q_8.2)
  else (if q_1 = (110 : Int32) then (fX6_readsLean (pI σ 0 8 ((gI σ 0 8) + (1 : Int32)))).bind (fun q_7 => fX6_readsStatement_126 q_7.1 q_7.2)
  else some ((0 : Int32), (pI (pI σ 0 8 ((gI σ 0 8) + (1 : Int32))) 0 8 ((gI (pI σ 0 8 ((gI σ 0 8) + (1 : Int32))) 0 8) - (1 : Int32))))))))))
def fX6_comes (a0 : Int32) (σ : Mm) : Option (Int32 × Mm) :=
  (if ci (0 : Int32) 2 = true then (if a0 = (99 : Int32) then (if ci (1 : Int32) 22 = true then (if (gI σ 6 (0 : Int32).toNatClampNeg) < (1 : Int32) then some ((0 : Int32), (pI σ 4 (1 : Int32).toNatClampNeg (gI σ 6 (0 : Int32).toNatClampNeg)))
  else (if (11 : Int32) < (gI σ 6 (0 : Int32).toNatClampNeg) then some ((0 : Int32), (pI σ 4 (1 : Int32).toNatClampNeg (gI σ 6 (0 : Int32).toNatClampNeg)))
  else some ((1 : Int32), (pI σ 4 (1 : Int32).toNatClampNeg (gI σ 6 (0 : Int32).toNatClampNeg))))) else none)
  else (if a0 = (108 : Int32) then (if ci (1 : Int32) 2 = true then (if (1 : Int32) ≤ (gI σ 6 (1 : Int32).toNatClampNeg) then (if ci (3 : Int32) 22 = true then (if ci (1 : Int32) 2 = true then (if ci (4 : Int32) 22 = true then some ((1 : Int32), (pI (pI σ 4 (3 : Int32).toNatClampNeg (gI σ 6 (0 : Int32).toNatClampNeg)) 4 (4 : Int32).toNatClampNeg (gI (pI σ 4 (3 : Int32).toNatClampNeg (gI σ 6 (0 : Int32).toNatClampNeg)) 6 (1 : Int32).toNatClampNeg))) else none) else none) else none)
  else some ((0 : Int32), σ)) else none)
  else (if a0 = (109 : Int32) then (if ci (0 : Int32) 22 = true then (if (gI σ 6 (0 : Int32).toNatClampNeg) < (1 : Int32) then some ((0 : Int32), (pI σ 4 (0 : Int32).toNatClampNeg (gI σ 6 (0 : Int32).toNatClampNeg)))
  else (if (10 : Int32) < (gI σ 6 (0 : Int32).toNatClampNeg) then some ((0 : Int32), (pI σ 4 (0 : Int32).toNatClampNeg (gI σ 6 (0 : Int32).toNatClampNeg)))
  else some ((1 : Int32), (pI σ 4 (0 : Int32).toNatClampNeg (gI σ 6 (0 : Int32).toNatClampNeg))))) else none)
  else (if a0 = (110 : Int32) then (if ci (2 : Int32) 22 = true then (if (gI σ 6 (0 : Int32).toNatClampNeg) < (-5 : Int32) then some ((0 : Int32), (pI σ 4 (2 : Int32).toNatClampNeg ((5 : Int32) + (gI σ 6 (0 : Int32).toNatClampNeg))))
  else (if (5 : Int32) < (gI σ 6 (0 : Int32).toNatClampNeg) then some ((0 : Int32), (pI σ 4 (2 : Int32).toNatClampNeg ((5 : Int32) + (gI σ 6 (0 : Int32).toNatClampNeg))))
  else some ((1 : Int32), (pI σ 4 (2 : Int32).toNatClampNeg ((5 : Int32) + (gI σ 6 (0 : Int32).toNatClampNeg)))))) else none)
  else (if ci (5 : Int32) 22 = true then (if (gI σ 4 (5 : Int32).toNatClampNeg) = (8 : Int32) then some ((0 : Int32), σ)
  else (if ci (5 : Int32) 22 = true then (if ci ((6 : Int32) + ((2 : Int32) * (gI σ 4 (5 : Int32).toNatClampNeg))) 22 = true then (if ci (5 : Int32) 22 = true then (if ci (1 : Int32) 2 = true then (if ci (((6 : Int32) + ((2 : Int32) * (gI (pI σ 4 ((6 : Int32) + ((2 : Int32) * (gI σ 4 (5 : Int32).toNatClampNeg))).toNatClampNeg (gI σ 6 (0 : Int32).toNatClampNeg)) 4 (5 : Int32).toNatClampNeg))) + (1 : Int32)) 22 = true then (if ci (5 : Int32) 22 = true then (if ci (5 : Int32) 22 = true then some ((1 : Int32), (pI (pI (pI σ 4 ((6 : Int32) + ((2 : Int32) * (gI σ 4 (5 : Int32).toNatClampNeg))).toNatClampNeg (gI σ 6 (0 : Int32).toNatClampNeg)) 4 (((6 : Int32) + ((2 : Int32) * (gI (pI σ 4 ((6 : Int32) + ((2 : Int32) * (gI σ 4 (5 : Int32).toNatClampNeg))).toNatClampNeg (gI σ 6 (0 : Int32).toNatClampNeg)) 4 (5 : Int32).toNatClampNeg))) + (1 : Int32)).toNatClampNeg (gI (pI σ 4 ((6 : Int32) + ((2 : Int32) * (gI σ 4 (5 : Int32).toNatClampNeg))).toNatClampNeg (gI σ 6 (0 : Int32).toNatClampNeg)) 6 (1 : Int32).toNatClampNeg)) 4 (5 : Int32).toNatClampNeg ((gI (pI (pI σ 4 ((6 : Int32) + ((2 : Int32) * (gI σ 4 (5 : Int32).toNatClampNeg))).toNatClampNeg (gI σ 6 (0 : Int32).toNatClampNeg)) 4 (((6 : Int32) + ((2 : Int32) * (gI (pI σ 4 ((6 : Int32) + ((2 : Int32) * (gI σ 4 (5 : Int32).toNatClampNeg))).toNatClampNeg (gI σ 6 (0 : Int32).toNatClampNeg)) 4 (5 : Int32).toNatClampNeg))) + (1 : Int32)).toNatClampNeg (gI (pI σ 4 ((6 : Int32) + ((2 : Int32) * (gI σ 4 (5 : Int32).toNatClampNeg))).toNatClampNeg (gI σ 6 (0 : Int32).toNatClampNeg)) 6 (1 : Int32).toNatClampNeg)) 4 (5 : Int32).toNatClampNeg) + (1 : Int32)))) else none) else none) else none) else none) else none) else none) else none)) else none))))) else none)
def fX6_reads_53   : Nat → Int32 → Mm → Option (Int32 × Mm)
  | 0, _, _ => none
  | n + 1, v1, σ => (if (gI σ 0 7) ≤ (gI σ 0 8) then (fX6_lays 4 2 σ).bind (fun q_2 => some (v1, q_2))
  else (fX6_sign σ).bind (fun q_3 => (fX6_readsStatement σ).bind (fun q_4 => (fX6_comes q_3 q_4.2).bind (fun q_5 => (if q_5.1 = 0 then some (((-2000 : Int32) - (gI σ 0 8)), q_5.2)
  else fX6_reads_53 n v1 q_5.2)))))
def fX6_reads_7   : Nat → Int32 → Mm → Option (Int32 × Mm)
  | 0, _, _ => none
  | n + 1, v1, σ => (fX6_readsStatement σ).bind (fun q_7 => (if q_7.1 = 0 then some (((-1000 : Int32) - (gI q_7.2 0 8)), q_7.2)
  else (if (gI q_7.2 0 8) < (gI q_7.2 0 7) then fX6_reads_7 n (v1 + (1 : Int32)) q_7.2
  else (fX6_lays 2 4 q_7.2).bind (fun q_10 => fX6_reads_53 1000 (v1 + (1 : Int32)) (pI q_10 0 8 (0 : Int32))))))
def fX6_reads  (σ : Mm) : Option (Int32 × Mm) :=
  fX6_reads_7 1000 (0 : Int32) (pI σ 0 8 (0 : Int32))
def fX6_land  (σ : Mm) : Option (Int32 × Mm) :=
  (fX6_reads σ).bind (fun q_1 => some (q_1.1, (pI q_1.2 0 7 (0 : Int32))))
def fX6_stopsBy (a0 : Int32) (a1 : Int32) (a2 : Int32) (a3 : Int32) (a4 : Int32) : Option Int32 :=
  (if a0 = (0 : Int32) then (if a4 ≤ 0 then some (0 : Int32)
  else some (1 : Int32))
  else (if a0 = (1 : Int32) then (if a2 < a1 then some (0 : Int32)
  else some (1 : Int32))
  else (if a0 = (2 : Int32) then (if (a2 - a3) = a1 then some (1 : Int32)
  else some (0 : Int32))
  else (if a0 = (3 : Int32) then (if a2 = a3 then some (1 : Int32)
  else some (0 : Int32))
  else (if a0 = (4 : Int32) then (if a4 < a1 then some (0 : Int32)
  else some (1 : Int32))
  else (if a2 ≤ 0 then some (0 : Int32)
  else (if a3 ≤ 0 then some (0 : Int32)
  else some (1 : Int32))))))))
def fX6_endsBy (a0 : Int32) (a1 : Int32) (a2 : Int32) (a3 : Int32) (σ : Mm) : Option Int32 :=
  (if ci (0 : Int32) 22 = true then (if (gI σ 2 (0 : Int32).toNatClampNeg) ≤ (a1 + a2) then some (1 : Int32)
  else (if ci (4 : Int32) 22 = true then (fX6_stopsBy a0 (gI σ 2 (4 : Int32).toNatClampNeg) a1 a2 a3).bind (fun q_4 => (if q_4 = 0 then some (0 : Int32)
  else some (1 : Int32))) else none)) else none)
def fX6_twelfths_34 (σ : Mm)  (t0 : Int32) (t1 : Int32) : Option Int32 :=
  (if 0 ≤ (t1 + t0) then (if (t1 + t0) ≤ (12 : Int32) then some (t1 + t0)
  else some (12 : Int32))
  else some (0 : Int32))
def fX6_twelfths (a0 : Int32) (σ : Mm) : Option Int32 :=
  (if ci (2 : Int32) 22 = true then (if ci (1 : Int32) 22 = true then (if a0 = (1 : Int32) then fX6_twelfths_34 σ ((gI σ 2 (2 : Int32).toNatClampNeg) - (5 : Int32)) (gI σ 2 (1 : Int32).toNatClampNeg)
  else (if a0 = 0 then fX6_twelfths_34 σ (-((gI σ 2 (2 : Int32).toNatClampNeg) - (5 : Int32))) (gI σ 2 (1 : Int32).toNatClampNeg)
  else fX6_twelfths_34 σ (0 : Int32) (gI σ 2 (1 : Int32).toNatClampNeg))) else none) else none)
def fX6_law_21   (v1 : Int32) (v2 : Int32) (t0 : Int32) (σ : Mm) : Option (Int32 × Mm) :=
  (if t0 = 0 then (if ci (3 : Int32) 22 = true then (if ci (4 : Int32) 22 = true then (if ci (3 : Int32) 22 = true then (if ci (4 : Int32) 22 = true then some ((((10 : Int32) * (gI σ 2 (3 : Int32).toNatClampNeg)) + (gI σ 2 (4 : Int32).toNatClampNeg)), (pI (pI σ 2 (3 : Int32).toNatClampNeg v1) 2 (4 : Int32).toNatClampNeg v2)) else none) else none) else none) else none)
  else (fX6_refuse t0 σ).bind (fun q_6 => some (q_6.1, q_6.2)))
def fX6_law (a0 : Int32) (a1 : Int32) (σ : Mm) : Option (Int32 × Mm) :=
  (fX6_isIn a0 (6 : Int32)).bind (fun q_1 => (if q_1 = 0 then fX6_law_21 a0 a1 (-2 : Int32) σ
  else (fX6_within a1 (1 : Int32) (9 : Int32)).bind (fun q_3 => fX6_law_21 a0 a1 q_3 σ)))
def fX6_set_39   (v1 : Int32) (v2 : Int32) (t0 : Int32) (σ : Mm) : Option (Int32 × Mm) :=
  (if t0 = 0 then (if ci v1 22 = true then (if ci v1 22 = true then some ((gI σ 2 v1.toNatClampNeg), (pI σ 2 v1.toNatClampNeg v2)) else none) else none)
  else (fX6_refuse t0 σ).bind (fun q_4 => some (q_4.1, q_4.2)))
def fX6_set_36   (v1 : Int32) (v2 : Int32) (t0 : Int32) (t1 : Int32) (t2 : Int32) (σ : Mm) : Option (Int32 × Mm) :=
  (fX6_within t2 t1 t0).bind (fun q_5 => fX6_set_39 v1 v2 q_5 σ)
def fX6_set_24   (v1 : Int32) (v2 : Int32) (t0 : Int32) (t1 : Int32) (σ : Mm) : Option (Int32 × Mm) :=
  (if v1 = (1 : Int32) then fX6_set_36 v1 v2 (11 : Int32) t0 t1 σ
  else fX6_set_36 v1 v2 (10 : Int32) t0 t1 σ)
def fX6_set (a0 : Int32) (a1 : Int32) (σ : Mm) : Option (Int32 × Mm) :=
  (fX6_isIn a0 (3 : Int32)).bind (fun q_1 => (if q_1 = 0 then fX6_set_39 a0 a1 (-2 : Int32) σ
  else (if a0 = (2 : Int32) then fX6_set_24 a0 a1 (0 : Int32) a1 σ
  else fX6_set_24 a0 a1 (1 : Int32) a1 σ)))
def fX6_stops_63   (v1 : Int32) (v2 : Int32) (v3 : Int32) (t0 : Int32) (σ : Mm) : Option (Int32 × Mm) :=
  (if t0 = 0 then (if ci (3 : Int32) 22 = true then (if ci (4 : Int32) 22 = true then (fX6_stopsBy (gI σ 2 (3 : Int32).toNatClampNeg) (gI σ 2 (4 : Int32).toNatClampNeg) v1 v2 v3).bind (fun q_4 => (if q_4 = 0 then some ((0 : Int32), σ)
  else some ((1 : Int32), σ))) else none) else none)
  else (fX6_refuse t0 σ).bind (fun q_6 => some (q_6.1, q_6.2)))
def fX6_stops_12   (v1 : Int32) (v2 : Int32) (v3 : Int32) (σ : Mm) : Option (Int32 × Mm) :=
  fX6_stops_63 v1 v2 v3 (-4 : Int32) σ
def fX6_stops_35   (v1 : Int32) (v2 : Int32) (v3 : Int32) (σ : Mm) : Option (Int32 × Mm) :=
  fX6_stops_63 v1 v2 v3 (-6 : Int32) σ
def fX6_stops_57   (v1 : Int32) (v2 : Int32) (v3 : Int32) (σ : Mm) : Option (Int32 × Mm) :=
  fX6_stops_63 v1 v2 v3 (-3 : Int32) σ
def fX6_stops_62   (v1 : Int32) (v2 : Int32) (v3 : Int32) (σ : Mm) : Option (Int32 × Mm) :=
  fX6_stops_63 v1 v2 v3 (0 : Int32) σ
def fX6_stops (a0 : Int32) (a1 : Int32) (a2 : Int32) (σ : Mm) : Option (Int32 × Mm) :=
  (if a0 < 0 then fX6_stops_12 a0 a1 a2 σ
  else (if a1 < 0 then fX6_stops_12 a0 a1 a2 σ
  else (if 0 ≤ a2 then (if (10 : Int32) < a0 then fX6_stops_35 a0 a1 a2 σ
  else (if (10 : Int32) < a1 then fX6_stops_35 a0 a1 a2 σ
  else (if a2 ≤ (10 : Int32) then (if a0 < a2 then fX6_stops_57 a0 a1 a2 σ
  else (if a1 = 0 then (if a0 = 0 then fX6_stops_57 a0 a1 a2 σ
  else (if a2 = 0 then fX6_stops_57 a0 a1 a2 σ
  else fX6_stops_62 a0 a1 a2 σ))
  else fX6_stops_62 a0 a1 a2 σ))
  else fX6_stops_35 a0 a1 a2 σ)))
  else fX6_stops_12 a0 a1 a2 σ)))
def fX6_isFamily_194   (v3 : Int64) (v5 : Int32) (t0 : Int32) (t1 : Int64) (t2 : Int64) (σ : Mm) : Option Mm :=
  (if v5 = (gI (pL σ 0 17 (t2 + (t1 * (t0.toInt64)))) 0 20) then some (pL (pL σ 0 17 (t2 + (t1 * (t0.toInt64)))) 0 18 ((gL (pL σ 0 17 (t2 + (t1 * (t0.toInt64)))) 0 18) + v3))
  else some (pL (pL σ 0 17 (t2 + (t1 * (t0.toInt64)))) 0 18 ((gL (pL σ 0 17 (t2 + (t1 * (t0.toInt64)))) 0 18) + (0 : Int64))))
def fX6_isFamily_131   (v1 : Int32) (v2 : Int32) (v3 : Int64) (v5 : Int32) (v6 : Int32) (t0 : Int64) (t1 : Int64) (σ : Mm) : Option Mm :=
  (if ci v6 11 = true then (if ci v6 11 = true then (if v1 = ((gI (pL (pL σ 0 16 (t1 + t0)) 7 v6.toNatClampNeg ((gL (pL σ 0 16 (t1 + t0)) 7 v6.toNatClampNeg) + v3)) 0 21) + (gI (pL (pL σ 0 16 (t1 + t0)) 7 v6.toNatClampNeg ((gL (pL σ 0 16 (t1 + t0)) 7 v6.toNatClampNeg) + v3)) 0 20)) then (if v2 = (((gI (pL (pL σ 0 16 (t1 + t0)) 7 v6.toNatClampNeg ((gL (pL σ 0 16 (t1 + t0)) 7 v6.toNatClampNeg) + v3)) 0 22) + (1 : Int32)) - (gI (pL (pL σ 0 16 (t1 + t0)) 7 v6.toNatClampNeg ((gL (pL σ 0 16 (t1 + t0)) 7 v6.toNatClampNeg) + v3)) 0 20)) then (if (gI (pL (pL σ 0 16 (t1 + t0)) 7 v6.toNatClampNeg ((gL (pL σ 0 16 (t1 + t0)) 7 v6.toNatClampNeg) + v3)) 0 20) = (1 : Int32) then fX6_isFamily_194 v3 v5 v1 v3 (gL (pL (pL σ 0 16 (t1 + t0)) 7 v6.toNatClampNeg ((gL (pL σ 0 16 (t1 + t0)) 7 v6.toNatClampNeg) + v3)) 0 17) (pL (pL σ 0 16 (t1 + t0)) 7 v6.toNatClampNeg ((gL (pL σ 0 16 (t1 + t0)) 7 v6.toNatClampNeg) + v3))
  else fX6_isFamily_194 v3 v5 v2 v3 (gL (pL (pL σ 0 16 (t1 + t0)) 7 v6.toNatClampNeg ((gL (pL σ 0 16 (t1 + t0)) 7 v6.toNatClampNeg) + v3)) 0 17) (pL (pL σ 0 16 (t1 + t0)) 7 v6.toNatClampNeg ((gL (pL σ 0 16 (t1 + t0)) 7 v6.toNatClampNeg) + v3)))
  else some (pL (pL σ 0 16 (t1 + t0)) 7 v6.toNatClampNeg ((gL (pL σ 0 16 (t1 + t0)) 7 v6.toNatClampNeg) + v3)))
  else some (pL (pL σ 0 16 (t1 + t0)) 7 v6.toNatClampNeg ((gL (pL σ 0 16 (t1 + t0)) 7 v6.toNatClampNeg) + v3))) else none) else none)
def fX6_isFamily_109   (v1 : Int32) (v2 : Int32) (v3 : Int64) (v5 : Int32) (v6 : Int32) (t0 : Int64) (t1 : Int64) (σ : Mm) : Option Mm :=
  (if v1 ≤ (1 : Int32) then fX6_isFamily_131 v1 v2 v3 v5 v6 (0 : Int64) (gL (pL σ 0 15 (t1 + t0)) 0 16) (pL σ 0 15 (t1 + t0))
  else fX6_isFamily_131 v1 v2 v3 v5 v6 (v3 * (v1.toInt64)) (gL (pL σ 0 15 (t1 + t0)) 0 16) (pL σ 0 15 (t1 + t0)))
def fX6_isFamily_86   (v1 : Int32) (v2 : Int32) (v3 : Int64) (v5 : Int32) (v6 : Int32) (t0 : Int64) (t1 : Int64) (σ : Mm) : Option Mm :=
  (if v1 ≤ v2 then fX6_isFamily_109 v1 v2 v3 v5 v6 (0 : Int64) (gL (pL σ 0 14 (t1 + t0)) 0 15) (pL σ 0 14 (t1 + t0))
  else fX6_isFamily_109 v1 v2 v3 v5 v6 (v3 * (v6.toInt64)) (gL (pL σ 0 14 (t1 + t0)) 0 15) (pL σ 0 14 (t1 + t0)))
def fX6_isFamily_67   (v1 : Int32) (v2 : Int32) (v3 : Int64) (v5 : Int32) (v6 : Int32) (t0 : Int64) (t1 : Int64) (σ : Mm) : Option Mm :=
  (if v1 = v2 then fX6_isFamily_86 v1 v2 v3 v5 v6 v3 (gL (pL σ 0 13 (t1 + t0)) 0 14) (pL σ 0 13 (t1 + t0))
  else fX6_isFamily_86 v1 v2 v3 v5 v6 (0 : Int64) (gL (pL σ 0 13 (t1 + t0)) 0 14) (pL σ 0 13 (t1 + t0)))
def fX6_isFamily (a0 : Int32) (a1 : Int32) (a2 : Int64) (a3 : Int32) (σ : Mm) : Option Mm :=
  (if ¬ (a0 + a1) = 0 then (if a0 ≤ a1 then fX6_isFamily_67 a0 a1 a2 a3 (a0 + a1) (0 : Int64) (gL (pL (pL (pL σ 0 10 ((gL σ 0 10) + (a2 * ((a0 + a1).toInt64)))) 0 11 ((gL (pL σ 0 10 ((gL σ 0 10) + (a2 * ((a0 + a1).toInt64)))) 0 11) + (a2 * (a0.toInt64)))) 0 12 ((gL (pL (pL σ 0 10 ((gL σ 0 10) + (a2 * ((a0 + a1).toInt64)))) 0 11 ((gL (pL σ 0 10 ((gL σ 0 10) + (a2 * ((a0 + a1).toInt64)))) 0 11) + (a2 * (a0.toInt64)))) 0 12) + (a2 * ((((2520 : Int32) / (a0 + a1)) * a0).toInt64)))) 0 13) (pL (pL (pL σ 0 10 ((gL σ 0 10) + (a2 * ((a0 + a1).toInt64)))) 0 11 ((gL (pL σ 0 10 ((gL σ 0 10) + (a2 * ((a0 + a1).toInt64)))) 0 11) + (a2 * (a0.toInt64)))) 0 12 ((gL (pL (pL σ 0 10 ((gL σ 0 10) + (a2 * ((a0 + a1).toInt64)))) 0 11 ((gL (pL σ 0 10 ((gL σ 0 10) + (a2 * ((a0 + a1).toInt64)))) 0 11) + (a2 * (a0.toInt64)))) 0 12) + (a2 * ((((2520 : Int32) / (a0 + a1)) * a0).toInt64))))
  else fX6_isFamily_67 a0 a1 a2 a3 (a0 + a1) a2 (gL (pL (pL (pL σ 0 10 ((gL σ 0 10) + (a2 * ((a0 + a1).toInt64)))) 0 11 ((gL (pL σ 0 10 ((gL σ 0 10) + (a2 * ((a0 + a1).toInt64)))) 0 11) + (a2 * (a0.toInt64)))) 0 12 ((gL (pL (pL σ 0 10 ((gL σ 0 10) + (a2 * ((a0 + a1).toInt64)))) 0 11 ((gL (pL σ 0 10 ((gL σ 0 10) + (a2 * ((a0 + a1).toInt64)))) 0 11) + (a2 * (a0.toInt64)))) 0 12) + (a2 * ((((2520 : Int32) / (a0 + a1)) * a0).toInt64)))) 0 13) (pL (pL (pL σ 0 10 ((gL σ 0 10) + (a2 * ((a0 + a1).toInt64)))) 0 11 ((gL (pL σ 0 10 ((gL σ 0 10) + (a2 * ((a0 + a1).toInt64)))) 0 11) + (a2 * (a0.toInt64)))) 0 12 ((gL (pL (pL σ 0 10 ((gL σ 0 10) + (a2 * ((a0 + a1).toInt64)))) 0 11 ((gL (pL σ 0 10 ((gL σ 0 10) + (a2 * ((a0 + a1).toInt64)))) 0 11) + (a2 * (a0.toInt64)))) 0 12) + (a2 * ((((2520 : Int32) / (a0 + a1)) * a0).toInt64))))) else none)
def fX6_goesOn_99 (R : Int32 → Int32 → Int32 → Int32 → Int32 → Int32 → Int64 → Mm → Option Mm)   (v7 : Int64) (v9 : Int32) (t0 : Int32) (t1 : Int32) (t2 : Int32) (t3 : Int32) (t4 : Int32) (t5 : Int32) (σ : Mm) : Option Mm :=
  (R t5 t4 t3 t2 t1 t0 ((v7 / (12 : Int64)) * (((12 : Int32) - v9).toInt64)) σ).bind (fun q_1 => some q_1)
def fX6_goesOn_67 (R : Int32 → Int32 → Int32 → Int32 → Int32 → Int32 → Int64 → Mm → Option Mm)   (v1 : Int32) (v2 : Int32) (v3 : Int32) (v6 : Int32) (v7 : Int64) (v9 : Int32) (t0 : Int32) (t1 : Int32) (t2 : Int32) (t3 : Int32) (t4 : Int32) (t5 : Int32) (σ : Mm) : Option Mm :=
  (R t5 t4 t3 t2 t1 t0 ((v7 / (12 : Int64)) * (v9.toInt64)) σ).bind (fun q_2 => (if 0 ≤ v6 then fX6_goesOn_99 R v7 v9 v6 (0 : Int32) (0 : Int32) (v3 + (1 : Int32)) v2 v1 q_2
  else fX6_goesOn_99 R v7 v9 (0 : Int32) (0 : Int32) (0 : Int32) (v3 + (1 : Int32)) v2 v1 q_2))
def fX6_goesOn_37 (R : Int32 → Int32 → Int32 → Int32 → Int32 → Int32 → Int64 → Mm → Option Mm)   (v1 : Int32) (v2 : Int32) (v3 : Int32) (v4 : Int32) (v5 : Int32) (v6 : Int32) (v7 : Int64) (σ : Mm) : Option Mm :=
  (fX6_twelfths v5 σ).bind (fun q_4 => (if 0 ≤ v6 then fX6_goesOn_67 R v1 v2 v3 v6 v7 q_4 v6 (1 : Int32) (v4 + (1 : Int32)) v3 (v2 + (1 : Int32)) v1 σ
  else fX6_goesOn_67 R v1 v2 v3 v6 v7 q_4 (1 : Int32) (1 : Int32) (v4 + (1 : Int32)) v3 (v2 + (1 : Int32)) v1 σ))
def fX6_goesOn : Nat → Int32 → Int32 → Int32 → Int32 → Int32 → Int32 → Int64 → Mm → Option Mm
  | 0, _, _, _, _, _, _, _, _ => none
  | n + 1, a0, a1, a2, a3, a4, a5, a6, σ => (if (lg_cmp a6 (0 : Int64)) = 0 then some σ
  else (if (a1 + a2) ≤ 0 then fX6_goesOn_37 (fun wa0 wa1 wa2 wa3 wa4 wa5 wa6 wσ => fX6_goesOn n wa0 wa1 wa2 wa3 wa4 wa5 wa6 wσ) a0 a1 a2 a3 a4 a5 a6 σ
  else (fX6_endsBy a0 a1 a2 a3 σ).bind (fun q_3 => (if q_3 = 0 then fX6_goesOn_37 (fun wa0 wa1 wa2 wa3 wa4 wa5 wa6 wσ => fX6_goesOn n wa0 wa1 wa2 wa3 wa4 wa5 wa6 wσ) a0 a1 a2 a3 a4 a5 a6 σ
  else (fX6_isFamily a1 a2 a6 a5 σ).bind (fun q_5 => some q_5)))))
def fX6_finds_82   : Nat → Int32 → Int32 → Mm → Option Mm
  | 0, _, _, _ => none
  | n + 1, v1, v2, σ => (if (10 : Int32) < v2 then (fX6_goesOn 12 v1 (0 : Int32) (0 : Int32) (0 : Int32) (-9 : Int32) (-9 : Int32) (gL σ 0 9) σ).bind (fun q_2 => some q_2)
  else (if ci v2 11 = true then fX6_finds_82 n v1 (v2 + (1 : Int32)) (pL σ 7 v2.toNatClampNeg (0 : Int64)) else none))
def fX6_finds_7   : Nat → Int32 → Int32 → Mm → Option Mm
  | 0, _, _, _ => none
  | n + 1, v1, v2, σ => (if ci (0 : Int32) 22 = true then (if (gI σ 2 (0 : Int32).toNatClampNeg) ≤ v2 then fX6_finds_82 1000 v1 (0 : Int32) (pL (pL (pL (pL (pL (pL (pL (pL (pL σ 0 10 (0 : Int64)) 0 11 (0 : Int64)) 0 12 (0 : Int64)) 0 13 (0 : Int64)) 0 14 (0 : Int64)) 0 15 (0 : Int64)) 0 16 (0 : Int64)) 0 17 (0 : Int64)) 0 18 (0 : Int64))
  else fX6_finds_7 n v1 (v2 + (1 : Int32)) (pL σ 0 9 ((gL σ 0 9) * (12 : Int64)))) else none)
def fX6_finds (a0 : Int32) (σ : Mm) : Option Mm :=
  fX6_finds_7 1000 a0 (0 : Int32) (pL σ 0 9 (1 : Int64))
def fX6_common : Nat → Int64 → Int64 → Option Int64
  | 0, _, _ => none
  | n + 1, a0, a1 => (if (lg_cmp a1 (0 : Int64)) = 0 then some a0
  else (if ¬ a1 = 0 then (fX6_common n a1 (a0 - a0 / a1 * a1)).bind (fun q_3 => some q_3) else none))
def fX6_part (a0 : Int64) (a1 : Int64) (a2 : Int32) : Option Int64 :=
  (if (lg_cmp a0 (0 : Int64)) = 0 then some (a2.toInt64)
  else (fX6_common 200 a1 a0).bind (fun q_2 => (if a2 = 0 then (if ¬ q_2 = 0 then some (a0 / q_2) else none)
  else (if ¬ q_2 = 0 then some (a1 / q_2) else none))))
def fX6_isPart (a0 : Int32) : Option Int32 :=
  (fX6_isIn a0 (2 : Int32)).bind (fun q_1 => (if q_1 &&& 1 = q_1 then some q_1 else none))
def fX6_mean_15   (σ : Mm) : Option (Int64 × Mm) :=
  (fX6_refuseWide (-2 : Int32) σ).bind (fun q_1 => some (q_1.1, q_1.2))
def fX6_mean_64   (v2 : Int32) (t0 : Int64) (σ : Mm) : Option (Int64 × Mm) :=
  (fX6_part t0 (gL σ 0 9) v2).bind (fun q_2 => some (q_2, σ))
def fX6_mean (a0 : Int32) (a1 : Int32) (σ : Mm) : Option (Int64 × Mm) :=
  (fX6_isIn a0 (3 : Int32)).bind (fun q_1 => (if q_1 = 0 then fX6_mean_15 σ
  else (fX6_isPart a1).bind (fun q_3 => (if q_3 = 0 then fX6_mean_15 σ
  else (if ci (3 : Int32) 22 = true then (fX6_finds (gI σ 2 (3 : Int32).toNatClampNeg) σ).bind (fun q_6 => (if a0 = 0 then fX6_mean_64 a1 (gL q_6 0 10) q_6
  else (if a0 = (1 : Int32) then fX6_mean_64 a1 (gL q_6 0 11) q_6
  else fX6_mean_64 a1 ((gL q_6 0 10) - (gL q_6 0 11)) q_6))) else none)))))
def fX6_share (a0 : Int32) (σ : Mm) : Option (Int64 × Mm) :=
  (fX6_isPart a0).bind (fun q_1 => (if q_1 = 0 then (fX6_refuseWide (-2 : Int32) σ).bind (fun q_6 => some (q_6.1, q_6.2))
  else (if ci (3 : Int32) 22 = true then (fX6_finds (gI σ 2 (3 : Int32).toNatClampNeg) σ).bind (fun q_4 => (fX6_part (gL q_4 0 12) ((gL q_4 0 9) * (2520 : Int64)) a0).bind (fun q_5 => some (q_5, q_4))) else none)))
def fX6_all (a0 : Int32) (σ : Mm) : Option (Int64 × Mm) :=
  (fX6_isPart a0).bind (fun q_1 => (if q_1 = 0 then (fX6_refuseWide (-2 : Int32) σ).bind (fun q_6 => some (q_6.1, q_6.2))
  else (if ci (3 : Int32) 22 = true then (fX6_finds (gI σ 2 (3 : Int32).toNatClampNeg) σ).bind (fun q_4 => (fX6_part (gL q_4 0 11) (gL q_4 0 10) a0).bind (fun q_5 => some (q_5, q_4))) else none)))
def fX6_more_15   (σ : Mm) : Option (Int64 × Mm) :=
  (fX6_refuseWide (-2 : Int32) σ).bind (fun q_1 => some (q_1.1, q_1.2))
def fX6_more_69   (v2 : Int32) (t0 : Int64) (σ : Mm) : Option (Int64 × Mm) :=
  (fX6_part t0 (gL σ 0 9) v2).bind (fun q_2 => some (q_2, σ))
def fX6_more (a0 : Int32) (a1 : Int32) (σ : Mm) : Option (Int64 × Mm) :=
  (fX6_isIn a0 (3 : Int32)).bind (fun q_1 => (if q_1 = 0 then fX6_more_15 σ
  else (fX6_isPart a1).bind (fun q_3 => (if q_3 = 0 then fX6_more_15 σ
  else (if ci (3 : Int32) 22 = true then (fX6_finds (gI σ 2 (3 : Int32).toNatClampNeg) σ).bind (fun q_6 => (if a0 = 0 then fX6_more_69 a1 (gL q_6 0 13) q_6
  else (if a0 = (1 : Int32) then fX6_more_69 a1 (gL q_6 0 14) q_6
  else fX6_more_69 a1 (((gL q_6 0 9) - (gL q_6 0 13)) - (gL q_6 0 14)) q_6))) else none)))))
def fX6_size_22   (v1 : Int32) (v2 : Int32) (v3 : Int32) (σ : Mm) : Option (Int64 × Mm) :=
  (if v3 = 0 then (if ci (3 : Int32) 22 = true then (fX6_finds (gI σ 2 (3 : Int32).toNatClampNeg) σ).bind (fun q_3 => (if ci v1 11 = true then (fX6_part (gL q_3 7 v1.toNatClampNeg) (gL q_3 0 9) v2).bind (fun q_5 => some (q_5, q_3)) else none)) else none)
  else (fX6_refuseWide v3 σ).bind (fun q_6 => some (q_6.1, q_6.2)))
def fX6_size (a0 : Int32) (a1 : Int32) (σ : Mm) : Option (Int64 × Mm) :=
  (fX6_within a0 (1 : Int32) (10 : Int32)).bind (fun q_1 => (if q_1 = 0 then (fX6_isPart a1).bind (fun q_3 => (if q_3 = 0 then fX6_size_22 a0 a1 (-2 : Int32) σ
  else fX6_size_22 a0 a1 q_1 σ))
  else fX6_size_22 a0 a1 q_1 σ))
def fX6_met_15   (σ : Mm) : Option (Int64 × Mm) :=
  (fX6_refuseWide (-2 : Int32) σ).bind (fun q_1 => some (q_1.1, q_1.2))
def fX6_met_47   (v2 : Int32) (t0 : Int64) (σ : Mm) : Option (Int64 × Mm) :=
  (fX6_part t0 (gL σ 0 10) v2).bind (fun q_2 => some (q_2, σ))
def fX6_met (a0 : Int32) (a1 : Int32) (σ : Mm) : Option (Int64 × Mm) :=
  (fX6_isIn a0 (2 : Int32)).bind (fun q_1 => (if q_1 = 0 then fX6_met_15 σ
  else (fX6_isPart a1).bind (fun q_3 => (if q_3 = 0 then fX6_met_15 σ
  else (if ci (3 : Int32) 22 = true then (fX6_finds (gI σ 2 (3 : Int32).toNatClampNeg) σ).bind (fun q_6 => (if a0 = 0 then fX6_met_47 a1 (gL q_6 0 15) q_6
  else fX6_met_47 a1 (gL q_6 0 16) q_6)) else none)))))
def fX6_says_61   (v1 : Int32) (v2 : Int32) (v3 : Int32) (v4 : Int32) (v5 : Int32) (t0 : Int32) (σ : Mm) : Option (Int64 × Mm) :=
  (if t0 = 0 then (if ci (3 : Int32) 22 = true then (fX6_finds (gI (pI (pI (pI σ 0 20 v1) 0 21 v2) 0 22 v3) 2 (3 : Int32).toNatClampNeg) (pI (pI (pI σ 0 20 v1) 0 21 v2) 0 22 v3)).bind (fun q_3 => (if v4 = 0 then (fX6_part (gL q_3 0 17) (gL q_3 0 10) v5).bind (fun q_6 => some (q_6, q_3))
  else (fX6_part (gL q_3 0 18) (gL q_3 0 17) v5).bind (fun q_5 => some (q_5, q_3)))) else none)
  else (fX6_refuseWide t0 σ).bind (fun q_7 => some (q_7.1, q_7.2)))
def fX6_says_8   (v1 : Int32) (v2 : Int32) (v3 : Int32) (v4 : Int32) (v5 : Int32) (σ : Mm) : Option (Int64 × Mm) :=
  fX6_says_61 v1 v2 v3 v4 v5 (-4 : Int32) σ
def fX6_says_25   (v1 : Int32) (v2 : Int32) (v3 : Int32) (v4 : Int32) (v5 : Int32) (σ : Mm) : Option (Int64 × Mm) :=
  fX6_says_61 v1 v2 v3 v4 v5 (-6 : Int32) σ
def fX6_says_59   (v1 : Int32) (v2 : Int32) (v3 : Int32) (v4 : Int32) (v5 : Int32) (σ : Mm) : Option (Int64 × Mm) :=
  fX6_says_61 v1 v2 v3 v4 v5 (-2 : Int32) σ
def fX6_says (a0 : Int32) (a1 : Int32) (a2 : Int32) (a3 : Int32) (a4 : Int32) (σ : Mm) : Option (Int64 × Mm) :=
  (if a1 < 0 then fX6_says_8 a0 a1 a2 a3 a4 σ
  else (if 0 ≤ a2 then (if (9 : Int32) < a1 then fX6_says_25 a0 a1 a2 a3 a4 σ
  else (if a2 ≤ (9 : Int32) then (fX6_isIn a0 (2 : Int32)).bind (fun q_5 => (if q_5 = 0 then fX6_says_59 a0 a1 a2 a3 a4 σ
  else (fX6_isIn a3 (2 : Int32)).bind (fun q_7 => (if q_7 = 0 then fX6_says_59 a0 a1 a2 a3 a4 σ
  else (fX6_isPart a4).bind (fun q_9 => (if q_9 = 0 then fX6_says_59 a0 a1 a2 a3 a4 σ
  else fX6_says_61 a0 a1 a2 a3 a4 (0 : Int32) σ))))))
  else fX6_says_25 a0 a1 a2 a3 a4 σ))
  else fX6_says_8 a0 a1 a2 a3 a4 σ))
def fX6_triedBy : Nat → Int32 → Int32 → Int32 → Int32 → Int64 → Mm → Option Int64
  | 0, _, _, _, _, _, _ => none
  | n + 1, a0, a1, a2, a3, a4, σ => (if a1 = a2 then some a4
  else (if a0 = 0 then some (0 : Int64)
  else (if (lg_cmp a4 (0 : Int64)) = 0 then some (0 : Int64)
  else (fX6_twelfths a3 σ).bind (fun q_4 => (fX6_triedBy n (a0 - (1 : Int32)) (a1 + (1 : Int32)) a2 (1 : Int32) ((a4 / (12 : Int64)) * (q_4.toInt64)) σ).bind (fun q_5 => (fX6_triedBy n (a0 - (1 : Int32)) (a1 - (1 : Int32)) a2 (0 : Int32) ((a4 / (12 : Int64)) * (((12 : Int32) - q_4).toInt64)) σ).bind (fun q_6 => some (q_5 + q_6)))))))
def fX6_trial_65   : Nat → Int32 → Int32 → Int32 → Int64 → Int32 → Mm → Option (Int64 × Mm)
  | 0, _, _, _, _, _, _ => none
  | n + 1, v1, v2, v3, v5, v7, σ => (if v1 ≤ v7 then (fX6_triedBy 12 v1 (0 : Int32) v2 (-9 : Int32) v5 σ).bind (fun q_2 => (fX6_part q_2 v5 v3).bind (fun q_3 => some (q_3, σ)))
  else fX6_trial_65 n v1 v2 v3 (v5 * (12 : Int64)) (v7 + (1 : Int32)) σ)
def fX6_trial_45   (v1 : Int32) (v2 : Int32) (v3 : Int32) (t0 : Int32) (σ : Mm) : Option (Int64 × Mm) :=
  (if t0 = 0 then fX6_trial_65 1000 v1 v2 v3 (1 : Int64) (0 : Int32) σ
  else (fX6_refuseWide t0 σ).bind (fun q_5 => some (q_5.1, q_5.2)))
def fX6_trial_10   (v1 : Int32) (v2 : Int32) (v3 : Int32) (σ : Mm) : Option (Int64 × Mm) :=
  fX6_trial_45 v1 v2 v3 (-4 : Int32) σ
def fX6_trial_27   (v1 : Int32) (v2 : Int32) (v3 : Int32) (σ : Mm) : Option (Int64 × Mm) :=
  fX6_trial_45 v1 v2 v3 (-6 : Int32) σ
def fX6_trial (a0 : Int32) (a1 : Int32) (a2 : Int32) (σ : Mm) : Option (Int64 × Mm) :=
  (if a0 < (1 : Int32) then fX6_trial_10 a0 a1 a2 σ
  else (if (1 : Int32) ≤ a1 then (if (10 : Int32) < a0 then fX6_trial_27 a0 a1 a2 σ
  else (if a1 ≤ (9 : Int32) then (fX6_isPart a2).bind (fun q_5 => (if q_5 = 0 then fX6_trial_45 a0 a1 a2 (-2 : Int32) σ
  else fX6_trial_45 a0 a1 a2 (0 : Int32) σ))
  else fX6_trial_27 a0 a1 a2 σ))
  else fX6_trial_10 a0 a1 a2 σ))
def fX6_stopOf_73  (K18 : Int32 → Int32 → Int32 → Int32 → Mm → Option (Int32 × Mm)) (v1 : Int32) (v2 : Int32) (v3 : Int32) (v4 : Int32) (t0 : Int32) (σ : Mm) : Option (Int32 × Mm) :=
  (fX6_endsBy v1 (gI (pI σ 0 25 t0) 0 23) (gI (pI σ 0 25 t0) 0 24) (gI (pI σ 0 25 t0) 0 25) (pI σ 0 25 t0)).bind (fun q_1 => (if q_1 = 0 then K18 v1 v2 v3 (v4 + (1 : Int32)) (pI σ 0 25 t0)
  else some ((v4 + (1 : Int32)), (pI σ 0 25 t0))))
def fX6_stopOf_18   : Nat → Int32 → Int32 → Int32 → Int32 → Mm → Option (Int32 × Mm)
  | 0, _, _, _, _, _ => none
  | n + 1, v1, v2, v3, v4, σ => (if v2 ≤ v4 then some ((0 : Int32), σ)
  else (if ((v3 >>> (v4 &&& 31)) &&& (1 : Int32)) = (1 : Int32) then fX6_stopOf_73 (fun wv1 wv2 wv3 wv4 wσ => fX6_stopOf_18 n wv1 wv2 wv3 wv4 wσ) v1 v2 v3 v4 ((gI (pI (pI σ 0 23 ((gI σ 0 23) + ((v3 >>> (v4 &&& 31)) &&& (1 : Int32)))) 0 24 ((gI (pI σ 0 23 ((gI σ 0 23) + ((v3 >>> (v4 &&& 31)) &&& (1 : Int32)))) 0 24) + ((1 : Int32) - ((v3 >>> (v4 &&& 31)) &&& (1 : Int32))))) 0 25) + (1 : Int32)) (pI (pI σ 0 23 ((gI σ 0 23) + ((v3 >>> (v4 &&& 31)) &&& (1 : Int32)))) 0 24 ((gI (pI σ 0 23 ((gI σ 0 23) + ((v3 >>> (v4 &&& 31)) &&& (1 : Int32)))) 0 24) + ((1 : Int32) - ((v3 >>> (v4 &&& 31)) &&& (1 : Int32)))))
  else fX6_stopOf_73 (fun wv1 wv2 wv3 wv4 wσ => fX6_stopOf_18 n wv1 wv2 wv3 wv4 wσ) v1 v2 v3 v4 (0 : Int32) (pI (pI σ 0 23 ((gI σ 0 23) + ((v3 >>> (v4 &&& 31)) &&& (1 : Int32)))) 0 24 ((gI (pI σ 0 23 ((gI σ 0 23) + ((v3 >>> (v4 &&& 31)) &&& (1 : Int32)))) 0 24) + ((1 : Int32) - ((v3 >>> (v4 &&& 31)) &&& (1 : Int32)))))))
def fX6_stopOf (a0 : Int32) (a1 : Int32) (a2 : Int32) (σ : Mm) : Option (Int32 × Mm) :=
  fX6_stopOf_18 1000 a0 a1 a2 (0 : Int32) (pI (pI (pI σ 0 23 (0 : Int32)) 0 24 (0 : Int32)) 0 25 (0 : Int32))
def fX6_row_28   (v1 : Int32) (t0 : Int32) (σ : Mm) : Option (Int32 × Mm) :=
  (if t0 = 0 then some ((gI (pI (pI σ 0 27 (((gI σ 0 27) &&& (((1 : Int32) <<< ((gI σ 0 26) &&& 31)) - (1 : Int32))) ||| (v1 <<< ((gI σ 0 26) &&& 31)))) 0 26 ((gI (pI σ 0 27 (((gI σ 0 27) &&& (((1 : Int32) <<< ((gI σ 0 26) &&& 31)) - (1 : Int32))) ||| (v1 <<< ((gI σ 0 26) &&& 31)))) 0 26) + (1 : Int32))) 0 26), (pI (pI σ 0 27 (((gI σ 0 27) &&& (((1 : Int32) <<< ((gI σ 0 26) &&& 31)) - (1 : Int32))) ||| (v1 <<< ((gI σ 0 26) &&& 31)))) 0 26 ((gI (pI σ 0 27 (((gI σ 0 27) &&& (((1 : Int32) <<< ((gI σ 0 26) &&& 31)) - (1 : Int32))) ||| (v1 <<< ((gI σ 0 26) &&& 31)))) 0 26) + (1 : Int32))))
  else (fX6_refuse t0 σ).bind (fun q_2 => some (q_2.1, q_2.2)))
def fX6_row (a0 : Int32) (σ : Mm) : Option (Int32 × Mm) :=
  (fX6_isIn a0 (2 : Int32)).bind (fun q_1 => (if q_1 = 0 then fX6_row_28 a0 (-2 : Int32) σ
  else (if (gI σ 0 26) = (10 : Int32) then fX6_row_28 a0 (-6 : Int32) σ
  else fX6_row_28 a0 (0 : Int32) σ)))
def fX6_gone_142   (v1 : Int32) (t0 : Int64) (t1 : Int64) (σ : Mm) : Option (Int64 × Mm) :=
  (fX6_part (t1 + t0) (12 : Int64) v1).bind (fun q_1 => some (q_1, σ))
def fX6_gone_107   (v1 : Int32) (v2 : Int32) (t0 : Int64) (σ : Mm) : Option (Int64 × Mm) :=
  (if ci (3 : Int32) 22 = true then (fX6_endsBy (gI σ 2 (3 : Int32).toNatClampNeg) (gI σ 0 23) ((gI σ 0 24) + (1 : Int32)) (0 : Int32) σ).bind (fun q_3 => (if q_3 = 0 then fX6_gone_142 v1 (0 : Int64) t0 σ
  else fX6_gone_142 v1 (((12 : Int32) - v2).toInt64) t0 σ)) else none)
def fX6_gone_68   (v1 : Int32) (t0 : Int32) (σ : Mm) : Option (Int64 × Mm) :=
  (fX6_twelfths t0 σ).bind (fun q_5 => (if ci (3 : Int32) 22 = true then (fX6_endsBy (gI σ 2 (3 : Int32).toNatClampNeg) ((gI σ 0 23) + (1 : Int32)) (gI σ 0 24) ((gI σ 0 25) + (1 : Int32)) σ).bind (fun q_7 => (if q_7 = 0 then fX6_gone_107 v1 q_5 (0 : Int64) σ
  else fX6_gone_107 v1 q_5 (q_5.toInt64) σ)) else none))
def fX6_gone (a0 : Int32) (σ : Mm) : Option (Int64 × Mm) :=
  (fX6_isPart a0).bind (fun q_1 => (if q_1 = 0 then (fX6_refuseWide (-2 : Int32) σ).bind (fun q_8 => some (q_8.1, q_8.2))
  else (if ci (3 : Int32) 22 = true then (fX6_stopOf (gI σ 2 (3 : Int32).toNatClampNeg) (gI σ 0 26) (gI σ 0 27) σ).bind (fun q_4 => (if q_4.1 ≤ 0 then (if (gI q_4.2 0 26) = 0 then fX6_gone_68 a0 (-9 : Int32) q_4.2
  else fX6_gone_68 a0 (((gI q_4.2 0 27) >>> (((gI q_4.2 0 26) - (1 : Int32)) &&& 31)) &&& (1 : Int32)) q_4.2)
  else (fX6_part (0 : Int64) (1 : Int64) a0).bind (fun q_7 => some (q_7, q_4.2)))) else none)))
def fX6_isMore_60 (R : Int64 → Int64 → Int64 → Int64 → Option Int32)   (v12 : Int64) : Option Int32 :=
  (if (lg_cmp v12 (0 : Int64)) ≤ 0 then some (0 : Int32)
  else some (1 : Int32))
def fX6_isMore : Nat → Int64 → Int64 → Int64 → Int64 → Option Int32
  | 0, _, _, _, _ => none
  | n + 1, a0, a1, a2, a3 => (if ¬ a1 = 0 then (if ¬ a3 = 0 then (if (lg_cmp (a0 / a1) (a2 / a3)) = 0 then (if ¬ a1 = 0 then (if ¬ a3 = 0 then (if (lg_cmp (a0 - a0 / a1 * a1) (0 : Int64)) = 0 then fX6_isMore_60 (fun wa0 wa1 wa2 wa3 => fX6_isMore n wa0 wa1 wa2 wa3) (a0 - a0 / a1 * a1)
  else (if (lg_cmp (a2 - a2 / a3 * a3) (0 : Int64)) = 0 then fX6_isMore_60 (fun wa0 wa1 wa2 wa3 => fX6_isMore n wa0 wa1 wa2 wa3) (a0 - a0 / a1 * a1)
  else (fX6_isMore n a3 (a2 - a2 / a3 * a3) a1 (a0 - a0 / a1 * a1)).bind (fun q_8 => (if q_8 &&& 1 = q_8 then some q_8 else none)))) else none) else none)
  else (if (lg_cmp (a0 / a1) (a2 / a3)) ≤ 0 then some (0 : Int32)
  else some (1 : Int32))) else none) else none)
def fX6_shift_118  (K26 : Int32 → Int32 → Int64 → Int64 → Int32 → Mm → Option (Int32 × Mm)) (v1 : Int32) (v2 : Int32) (v3 : Int64) (v5 : Int64) (v7 : Int32) (σ : Mm) : Option (Int32 × Mm) :=
  K26 v1 v2 v3 v5 (v7 + (1 : Int32)) σ
def fX6_shift_108  (K26 : Int32 → Int32 → Int64 → Int64 → Int32 → Mm → Option (Int32 × Mm)) (v1 : Int32) (v7 : Int32) (v8 : Int64) (v10 : Int64) (σ : Mm) : Option (Int32 × Mm) :=
  fX6_shift_118 K26 v1 v7 v8 v10 v7 σ
def fX6_shift_94  (K26 : Int32 → Int32 → Int64 → Int64 → Int32 → Mm → Option (Int32 × Mm)) (v1 : Int32) (v2 : Int32) (v3 : Int64) (v5 : Int64) (v7 : Int32) (v8 : Int64) (v10 : Int64) (t0 : Int32) (σ : Mm) : Option (Int32 × Mm) :=
  (if v2 < 0 then fX6_shift_108 K26 v1 v7 v8 v10 σ
  else (if t0 = 0 then fX6_shift_118 K26 v1 v2 v3 v5 v7 σ
  else fX6_shift_108 K26 v1 v7 v8 v10 σ))
def fX6_shift_26   : Nat → Int32 → Int32 → Int64 → Int64 → Int32 → Mm → Option (Int32 × Mm)
  | 0, _, _, _, _, _, _ => none
  | n + 1, v1, v2, v3, v5, v7, σ => (if (6 : Int32) ≤ v7 then some (v2, σ)
  else (fX6_finds v7 σ).bind (fun q_4 => (fX6_part (gL q_4 0 11) (gL q_4 0 10) (0 : Int32)).bind (fun q_5 => (fX6_part (gL q_4 0 11) (gL q_4 0 10) (1 : Int32)).bind (fun q_6 => (if v1 = 0 then (fX6_isMore 200 q_5 q_6 v3 v5).bind (fun q_9 => fX6_shift_94 (fun wv1 wv2 wv3 wv5 wv7 wσ => fX6_shift_26 n wv1 wv2 wv3 wv5 wv7 wσ) v1 v2 v3 v5 v7 q_5 q_6 q_9 q_4)
  else (fX6_isMore 200 v3 v5 q_5 q_6).bind (fun q_8 => fX6_shift_94 (fun wv1 wv2 wv3 wv5 wv7 wσ => fX6_shift_26 n wv1 wv2 wv3 wv5 wv7 wσ) v1 v2 v3 v5 v7 q_5 q_6 q_8 q_4))))))
def fX6_shift (a0 : Int32) (σ : Mm) : Option (Int32 × Mm) :=
  (fX6_isIn a0 (2 : Int32)).bind (fun q_1 => (if q_1 = 0 then (fX6_refuse (-2 : Int32) σ).bind (fun q_3 => some (q_3.1, q_3.2))
  else fX6_shift_26 1000 a0 (-9 : Int32) (0 : Int64) (1 : Int64) (0 : Int32) σ))
def fX6_manyOf (a0 : Int32) (σ : Mm) : Option Int32 :=
  (if ci ((6 : Int32) + ((2 : Int32) * a0)) 22 = true then some (gI σ 2 ((6 : Int32) + ((2 : Int32) * a0)).toNatClampNeg) else none)
def fX6_sortsOf (a0 : Int32) (σ : Mm) : Option Int32 :=
  (if ci (((6 : Int32) + ((2 : Int32) * a0)) + (1 : Int32)) 22 = true then some (gI σ 2 (((6 : Int32) + ((2 : Int32) * a0)) + (1 : Int32)).toNatClampNeg) else none)
def fX6_fits_113  (K19 : Int32 → Int32 → Int32 → Mm → Option (Int32 × Mm)) (v1 : Int32) (v3 : Int32) (t0 : Int32) (t1 : Int32) (σ : Mm) : Option (Int32 × Mm) :=
  K19 v1 (t1 ||| t0) (v3 + (1 : Int32)) σ
def fX6_fits_92  (K19 : Int32 → Int32 → Int32 → Mm → Option (Int32 × Mm)) (K31 : Int32 → Int32 → Int32 → Int32 → Int32 → Mm → Option (Int32 × Mm)) (v1 : Int32) (v2 : Int32) (v3 : Int32) (v5 : Int32) (t0 : Int32) (σ : Mm) : Option (Int32 × Mm) :=
  K31 v1 v2 v3 t0 (v5 + (1 : Int32)) σ
def fX6_fits_91  (K19 : Int32 → Int32 → Int32 → Mm → Option (Int32 × Mm)) (K31 : Int32 → Int32 → Int32 → Int32 → Int32 → Mm → Option (Int32 × Mm)) (v1 : Int32) (v2 : Int32) (v3 : Int32) (v5 : Int32) (σ : Mm) : Option (Int32 × Mm) :=
  fX6_fits_92 K19 K31 v1 v2 v3 v5 (0 : Int32) σ
def fX6_fits_87  (K19 : Int32 → Int32 → Int32 → Mm → Option (Int32 × Mm)) (K31 : Int32 → Int32 → Int32 → Int32 → Int32 → Mm → Option (Int32 × Mm)) (v1 : Int32) (v2 : Int32) (v3 : Int32) (v5 : Int32) (σ : Mm) : Option (Int32 × Mm) :=
  fX6_fits_92 K19 K31 v1 v2 v3 v5 (1 : Int32) σ
def fX6_fits_31  (K19 : Int32 → Int32 → Int32 → Mm → Option (Int32 × Mm)) : Nat → Int32 → Int32 → Int32 → Int32 → Int32 → Mm → Option (Int32 × Mm)
  | 0, _, _, _, _, _, _ => none
  | n + 1, v1, v2, v3, v4, v5, σ => (if ci (5 : Int32) 22 = true then (if (gI σ 2 (5 : Int32).toNatClampNeg) ≤ v5 then (if v4 = 0 then fX6_fits_113 K19 v1 v3 (0 : Int32) v2 σ
  else fX6_fits_113 K19 v1 v3 ((1 : Int32) <<< (v3 &&& 31)) v2 σ)
  else (fX6_manyOf v5 σ).bind (fun q_4 => (fX6_sortsOf v5 σ).bind (fun q_5 => (fX6_stopOf v3 q_4 q_5 σ).bind (fun q_6 => (if v4 = 0 then fX6_fits_91 K19 (fun wv1 wv2 wv3 wv4 wv5 wσ => fX6_fits_31 K19 n wv1 wv2 wv3 wv4 wv5 wσ) v1 v2 v3 v5 q_6.2
  else (fX6_manyOf v5 q_6.2).bind (fun q_8 => (if q_6.1 = q_8 then fX6_fits_87 K19 (fun wv1 wv2 wv3 wv4 wv5 wσ => fX6_fits_31 K19 n wv1 wv2 wv3 wv4 wv5 wσ) v1 v2 v3 v5 q_6.2
  else (if v1 = (1 : Int32) then (if q_6.1 = 0 then fX6_fits_87 K19 (fun wv1 wv2 wv3 wv4 wv5 wσ => fX6_fits_31 K19 n wv1 wv2 wv3 wv4 wv5 wσ) v1 v2 v3 v5 q_6.2
  else fX6_fits_91 K19 (fun wv1 wv2 wv3 wv4 wv5 wσ => fX6_fits_31 K19 n wv1 wv2 wv3 wv4 wv5 wσ) v1 v2 v3 v5 q_6.2)
  else fX6_fits_91 K19 (fun wv1 wv2 wv3 wv4 wv5 wσ => fX6_fits_31 K19 n wv1 wv2 wv3 wv4 wv5 wσ) v1 v2 v3 v5 q_6.2)))))))) else none)
def fX6_fits_19   : Nat → Int32 → Int32 → Int32 → Mm → Option (Int32 × Mm)
  | 0, _, _, _, _ => none
  | n + 1, v1, v2, v3, σ => (if (6 : Int32) ≤ v3 then some (v2, σ)
  else fX6_fits_31 (fun wv1 wv2 wv3 wσ => fX6_fits_19 n wv1 wv2 wv3 wσ) 1000 v1 v2 v3 (1 : Int32) (0 : Int32) σ)
def fX6_fits (a0 : Int32) (σ : Mm) : Option (Int32 × Mm) :=
  (fX6_isIn a0 (2 : Int32)).bind (fun q_1 => (if q_1 = 0 then (fX6_refuse (-2 : Int32) σ).bind (fun q_3 => some (q_3.1, q_3.2))
  else fX6_fits_19 1000 a0 (0 : Int32) (0 : Int32) σ))
def fX6_judge  (σ : Mm) : Option (Int32 × Mm) :=
  (if ci (3 : Int32) 22 = true then (fX6_stopOf (gI (pI σ 0 26 (0 : Int32)) 2 (3 : Int32).toNatClampNeg) (gI σ 0 26) (gI (pI σ 0 26 (0 : Int32)) 0 27) (pI σ 0 26 (0 : Int32))).bind (fun q_2 => (if q_2.1 = 0 then some ((-9 : Int32), q_2.2)
  else (if q_2.1 = (gI σ 0 26) then some ((20 : Int32), q_2.2)
  else some ((q_2.1 - (1 : Int32)), q_2.2)))) else none)
def fX6_seen_23   (v1 : Int32) (v2 : Int32) (t0 : Int32) (σ : Mm) : Option (Int32 × Mm) :=
  (if t0 = 0 then (if ci (5 : Int32) 22 = true then (if v1 < (gI σ 2 (5 : Int32).toNatClampNeg) then (if v2 = 0 then (fX6_manyOf v1 σ).bind (fun q_6 => some (q_6, σ))
  else (fX6_sortsOf v1 σ).bind (fun q_5 => some (q_5, σ)))
  else some ((-9 : Int32), σ)) else none)
  else (fX6_refuse t0 σ).bind (fun q_7 => some (q_7.1, q_7.2)))
def fX6_seen (a0 : Int32) (a1 : Int32) (σ : Mm) : Option (Int32 × Mm) :=
  (if 0 ≤ a0 then (fX6_isIn a1 (2 : Int32)).bind (fun q_2 => (if q_2 = 0 then fX6_seen_23 a0 a1 (-2 : Int32) σ
  else fX6_seen_23 a0 a1 (0 : Int32) σ))
  else fX6_seen_23 a0 a1 (-4 : Int32) σ)
def fX6_cheats_54  (K4 : Int32 → Int32 → Mm → Option (Int32 × Mm)) (v2 : Int32) (t0 : Int32) (t1 : Int32) (σ : Mm) : Option (Int32 × Mm) :=
  K4 (t1 + t0) (v2 + (1 : Int32)) σ
def fX6_cheats_53  (K4 : Int32 → Int32 → Mm → Option (Int32 × Mm)) (v2 : Int32) (t0 : Int32) (σ : Mm) : Option (Int32 × Mm) :=
  fX6_cheats_54 K4 v2 (0 : Int32) t0 σ
def fX6_cheats_4   : Nat → Int32 → Int32 → Mm → Option (Int32 × Mm)
  | 0, _, _, _ => none
  | n + 1, v1, v2, σ => (if ci (5 : Int32) 22 = true then (if (gI σ 2 (5 : Int32).toNatClampNeg) ≤ v2 then some (v1, σ)
  else (if ci (3 : Int32) 22 = true then (fX6_manyOf v2 σ).bind (fun q_4 => (fX6_sortsOf v2 σ).bind (fun q_5 => (fX6_stopOf (gI σ 2 (3 : Int32).toNatClampNeg) q_4 q_5 σ).bind (fun q_6 => (if q_6.1 ≤ 0 then fX6_cheats_53 (fun wv1 wv2 wσ => fX6_cheats_4 n wv1 wv2 wσ) v2 v1 q_6.2
  else (fX6_manyOf v2 q_6.2).bind (fun q_8 => (if q_8 ≤ q_6.1 then fX6_cheats_53 (fun wv1 wv2 wσ => fX6_cheats_4 n wv1 wv2 wσ) v2 v1 q_6.2
  else fX6_cheats_54 (fun wv1 wv2 wσ => fX6_cheats_4 n wv1 wv2 wσ) v2 (1 : Int32) v1 q_6.2)))))) else none)) else none)
def fX6_cheats  (σ : Mm) : Option (Int32 × Mm) :=
  fX6_cheats_4 1000 (0 : Int32) (0 : Int32) σ
def fX6_drawn (a0 : Int32) (σ : Mm) : Option (Int32 × Mm) :=
  (if ¬ a0 = 0 then some (((((gI (pI σ 0 28 (((gI σ 0 28) * (1664525 : Int32)) + (1013904223 : Int32))) 0 28) &&& (2147483647 : Int32)) / (256 : Int32)) - (((gI (pI σ 0 28 (((gI σ 0 28) * (1664525 : Int32)) + (1013904223 : Int32))) 0 28) &&& (2147483647 : Int32)) / (256 : Int32)) / a0 * a0), (pI σ 0 28 (((gI σ 0 28) * (1664525 : Int32)) + (1013904223 : Int32)))) else none)
def fX6_lots_155  (K49 : Int32 → Int32 → Int32 → Int32 → Mm → Option (Int32 × Mm)) (v1 : Int32) (v3 : Int32) (v6 : Int32) (t0 : Int32) (t1 : Int32) (σ : Mm) : Option (Int32 × Mm) :=
  K49 v1 v3 (t1 + t0) (v6 + (1 : Int32)) σ
def fX6_lots_120  (K49 : Int32 → Int32 → Int32 → Int32 → Mm → Option (Int32 × Mm)) (K68 : Int32 → Int32 → Int32 → Int32 → Int32 → Int32 → Int32 → Int32 → Mm → Option (Int32 × Mm)) (v1 : Int32) (v3 : Int32) (v5 : Int32) (v6 : Int32) (v7 : Int32) (v8 : Int32) (v10 : Int32) (t0 : Int32) (σ : Mm) : Option (Int32 × Mm) :=
  (if ci (3 : Int32) 22 = true then (fX6_endsBy (gI σ 2 (3 : Int32).toNatClampNeg) v7 v8 t0 σ).bind (fun q_2 => (if q_2 = 0 then K68 v1 v3 v5 v6 v7 v8 t0 v10 σ
  else (if v3 = (1 : Int32) then fX6_lots_155 K49 v1 v3 v6 v7 v5 σ
  else fX6_lots_155 K49 v1 v3 v6 v8 v5 σ))) else none)
def fX6_lots_88  (K49 : Int32 → Int32 → Int32 → Int32 → Mm → Option (Int32 × Mm)) (K68 : Int32 → Int32 → Int32 → Int32 → Int32 → Int32 → Int32 → Int32 → Mm → Option (Int32 × Mm)) (v1 : Int32) (v3 : Int32) (v5 : Int32) (v6 : Int32) (v7 : Int32) (v8 : Int32) (v9 : Int32) (t0 : Int32) (σ : Mm) : Option (Int32 × Mm) :=
  (if t0 = (1 : Int32) then fX6_lots_120 K49 K68 v1 v3 v5 v6 (v7 + t0) (v8 + ((1 : Int32) - t0)) t0 (v9 + (1 : Int32)) σ
  else fX6_lots_120 K49 K68 v1 v3 v5 v6 (v7 + t0) (v8 + ((1 : Int32) - t0)) t0 (0 : Int32) σ)
def fX6_lots_68  (K49 : Int32 → Int32 → Int32 → Int32 → Mm → Option (Int32 × Mm)) : Nat → Int32 → Int32 → Int32 → Int32 → Int32 → Int32 → Int32 → Int32 → Mm → Option (Int32 × Mm)
  | 0, _, _, _, _, _, _, _, _, _ => none
  | n + 1, v1, v3, v5, v6, v7, v8, v9, v10, σ => (fX6_drawn (12 : Int32) σ).bind (fun q_6 => (fX6_twelfths v10 q_6.2).bind (fun q_7 => (if q_7 ≤ q_6.1 then fX6_lots_88 K49 (fun wv1 wv3 wv5 wv6 wv7 wv8 wv9 wv10 wσ => fX6_lots_68 K49 n wv1 wv3 wv5 wv6 wv7 wv8 wv9 wv10 wσ) v1 v3 v5 v6 v7 v8 v9 (0 : Int32) q_6.2
  else fX6_lots_88 K49 (fun wv1 wv3 wv5 wv6 wv7 wv8 wv9 wv10 wσ => fX6_lots_68 K49 n wv1 wv3 wv5 wv6 wv7 wv8 wv9 wv10 wσ) v1 v3 v5 v6 v7 v8 v9 (1 : Int32) q_6.2)))
def fX6_lots_49   : Nat → Int32 → Int32 → Int32 → Int32 → Mm → Option (Int32 × Mm)
  | 0, _, _, _, _, _ => none
  | n + 1, v1, v3, v5, v6, σ => (if v1 ≤ v6 then some (v5, σ)
  else fX6_lots_68 (fun wv1 wv3 wv5 wv6 wσ => fX6_lots_49 n wv1 wv3 wv5 wv6 wσ) 1000 v1 v3 v5 v6 (0 : Int32) (0 : Int32) (0 : Int32) (-9 : Int32) σ)
def fX6_lots_26   (v1 : Int32) (v2 : Int32) (v3 : Int32) (v4 : Int32) (σ : Mm) : Option (Int32 × Mm) :=
  (if v4 = 0 then fX6_lots_49 1000 v1 v3 (0 : Int32) (0 : Int32) (pI σ 0 28 v2)
  else (fX6_refuse v4 σ).bind (fun q_11 => some (q_11.1, q_11.2)))
def fX6_lots (a0 : Int32) (a1 : Int32) (a2 : Int32) (σ : Mm) : Option (Int32 × Mm) :=
  (fX6_within a0 (1 : Int32) (40 : Int32)).bind (fun q_1 => (if q_1 = 0 then (fX6_isIn a2 (2 : Int32)).bind (fun q_3 => (if q_3 = 0 then fX6_lots_26 a0 a1 a2 (-2 : Int32) σ
  else fX6_lots_26 a0 a1 a2 q_1 σ))
  else fX6_lots_26 a0 a1 a2 q_1 σ))
def fX6_image  (σ : Mm) : Option (Int32 × Mm) :=
  (fX6_lays 2 3 σ).bind (fun q_1 => (if ci (5 : Int32) 22 = true then some ((gI (pI q_1 0 4 (1 : Int32)) 2 (5 : Int32).toNatClampNeg), (pI q_1 0 4 (1 : Int32))) else none))
def fX6_on  (σ : Mm) : Option (Int32 × Mm) :=
  (if (gI σ 0 4) = 0 then (fX6_refuse (-3 : Int32) σ).bind (fun q_4 => some (q_4.1, q_4.2))
  else (fX6_lays 3 2 σ).bind (fun q_2 => (if ci (5 : Int32) 22 = true then some ((gI q_2 2 (5 : Int32).toNatClampNeg), q_2) else none)))
def fX6_count_22 (σ : Mm)  (v1 : Int32) : Option Int32 :=
  (fX6_isIn v1 (6 : Int32)).bind (fun q_1 => (if q_1 = 0 then (if v1 = (6 : Int32) then some (gI σ 0 26)
  else (if v1 = (7 : Int32) then some (gI σ 0 7)
  else some (-9 : Int32)))
  else (if ci v1 22 = true then some (gI σ 2 v1.toNatClampNeg) else none)))
def fX6_count (a0 : Int32) (σ : Mm) : Option Int32 :=
  (if a0 ≤ (10 : Int32) then fX6_count_22 σ a0
  else (if (17 : Int32) ≤ a0 then fX6_count_22 σ a0
  else (if ci (a0 - (10 : Int32)) 7 = true then some (gI σ 1 (a0 - (10 : Int32)).toNatClampNeg) else none)))
def fJ9_max_7cf53 (a0 : Int32) (a1 : Int32) : Option Int32 :=
  (if a0 < a1 then some a1
  else some a0)
def fJ9_min_7cf53 (a0 : Int32) (a1 : Int32) : Option Int32 :=
  (if a1 < a0 then some a1
  else some a0)
end
section
/-! WHAT IS OWED OF THE FUNCTIONS: a relation of the two memories that every call keeps, with the same answer -/
def lawG_0 (Rel : Mm → Mm → Prop) : Prop := ∀ (a0 : Int32) (σ τ : Mm), Rel σ τ → ∃ (r : Int32) (σ' : Mm) (τ' : Mm), fX5_letter a0 σ = some (r, σ') ∧ fX6_letter a0 τ = some (r, τ') ∧ Rel σ' τ'
def lawG_1 (Rel : Mm → Mm → Prop) : Prop := ∀ (σ τ : Mm), Rel σ τ → ∃ (r : Int32) (σ' : Mm) (τ' : Mm), fX5_land  σ = some (r, σ') ∧ fX6_land  τ = some (r, τ') ∧ Rel σ' τ'
def lawG_2 (Rel : Mm → Mm → Prop) : Prop := ∀ (a0 a1 : Int32) (σ τ : Mm), Rel σ τ → ∃ (r : Int32) (σ' : Mm) (τ' : Mm), fX5_law a0 a1 σ = some (r, σ') ∧ fX6_law a0 a1 τ = some (r, τ') ∧ Rel σ' τ'
def lawG_3 (Rel : Mm → Mm → Prop) : Prop := ∀ (a0 a1 : Int32) (σ τ : Mm), Rel σ τ → ∃ (r : Int32) (σ' : Mm) (τ' : Mm), fX5_set a0 a1 σ = some (r, σ') ∧ fX6_set a0 a1 τ = some (r, τ') ∧ Rel σ' τ'
def lawG_4 (Rel : Mm → Mm → Prop) : Prop := ∀ (a0 a1 a2 : Int32) (σ τ : Mm), Rel σ τ → ∃ (r : Int32) (σ' : Mm) (τ' : Mm), fX5_stops a0 a1 a2 σ = some (r, σ') ∧ fX6_stops a0 a1 a2 τ = some (r, τ') ∧ Rel σ' τ'
def lawG_5 (Rel : Mm → Mm → Prop) : Prop := ∀ (a0 a1 : Int32) (σ τ : Mm), Rel σ τ → ∃ (r : Int64) (σ' : Mm) (τ' : Mm), fX5_mean a0 a1 σ = some (r, σ') ∧ fX6_mean a0 a1 τ = some (r, τ') ∧ Rel σ' τ'
def lawG_6 (Rel : Mm → Mm → Prop) : Prop := ∀ (a0 : Int32) (σ τ : Mm), Rel σ τ → ∃ (r : Int64) (σ' : Mm) (τ' : Mm), fX5_share a0 σ = some (r, σ') ∧ fX6_share a0 τ = some (r, τ') ∧ Rel σ' τ'
def lawG_7 (Rel : Mm → Mm → Prop) : Prop := ∀ (a0 : Int32) (σ τ : Mm), Rel σ τ → ∃ (r : Int64) (σ' : Mm) (τ' : Mm), fX5_all a0 σ = some (r, σ') ∧ fX6_all a0 τ = some (r, τ') ∧ Rel σ' τ'
def lawG_8 (Rel : Mm → Mm → Prop) : Prop := ∀ (a0 a1 : Int32) (σ τ : Mm), Rel σ τ → ∃ (r : Int64) (σ' : Mm) (τ' : Mm), fX5_more a0 a1 σ = some (r, σ') ∧ fX6_more a0 a1 τ = some (r, τ') ∧ Rel σ' τ'
def lawG_9 (Rel : Mm → Mm → Prop) : Prop := ∀ (a0 a1 : Int32) (σ τ : Mm), Rel σ τ → ∃ (r : Int64) (σ' : Mm) (τ' : Mm), fX5_size a0 a1 σ = some (r, σ') ∧ fX6_size a0 a1 τ = some (r, τ') ∧ Rel σ' τ'
def lawG_10 (Rel : Mm → Mm → Prop) : Prop := ∀ (a0 a1 : Int32) (σ τ : Mm), Rel σ τ → ∃ (r : Int64) (σ' : Mm) (τ' : Mm), fX5_met a0 a1 σ = some (r, σ') ∧ fX6_met a0 a1 τ = some (r, τ') ∧ Rel σ' τ'
def lawG_11 (Rel : Mm → Mm → Prop) : Prop := ∀ (a0 a1 a2 a3 a4 : Int32) (σ τ : Mm), Rel σ τ → ∃ (r : Int64) (σ' : Mm) (τ' : Mm), fX5_says a0 a1 a2 a3 a4 σ = some (r, σ') ∧ fX6_says a0 a1 a2 a3 a4 τ = some (r, τ') ∧ Rel σ' τ'
def lawG_12 (Rel : Mm → Mm → Prop) : Prop := ∀ (a0 a1 a2 : Int32) (σ τ : Mm), Rel σ τ → ∃ (r : Int64) (σ' : Mm) (τ' : Mm), fX5_trial a0 a1 a2 σ = some (r, σ') ∧ fX6_trial a0 a1 a2 τ = some (r, τ') ∧ Rel σ' τ'
def lawG_13 (Rel : Mm → Mm → Prop) : Prop := ∀ (a0 : Int32) (σ τ : Mm), Rel σ τ → ∃ (r : Int32) (σ' : Mm) (τ' : Mm), fX5_row a0 σ = some (r, σ') ∧ fX6_row a0 τ = some (r, τ') ∧ Rel σ' τ'
def lawG_14 (Rel : Mm → Mm → Prop) : Prop := ∀ (a0 : Int32) (σ τ : Mm), Rel σ τ → ∃ (r : Int64) (σ' : Mm) (τ' : Mm), fX5_gone a0 σ = some (r, σ') ∧ fX6_gone a0 τ = some (r, τ') ∧ Rel σ' τ'
def lawG_15 (Rel : Mm → Mm → Prop) : Prop := ∀ (a0 : Int32) (σ τ : Mm), Rel σ τ → ∃ (r : Int32) (σ' : Mm) (τ' : Mm), fX5_shift a0 σ = some (r, σ') ∧ fX6_shift a0 τ = some (r, τ') ∧ Rel σ' τ'
def lawG_16 (Rel : Mm → Mm → Prop) : Prop := ∀ (a0 : Int32) (σ τ : Mm), Rel σ τ → ∃ (r : Int32) (σ' : Mm) (τ' : Mm), fX5_fits a0 σ = some (r, σ') ∧ fX6_fits a0 τ = some (r, τ') ∧ Rel σ' τ'
def lawG_17 (Rel : Mm → Mm → Prop) : Prop := ∀ (σ τ : Mm), Rel σ τ → ∃ (r : Int32) (σ' : Mm) (τ' : Mm), fX5_judge  σ = some (r, σ') ∧ fX6_judge  τ = some (r, τ') ∧ Rel σ' τ'
def lawG_18 (Rel : Mm → Mm → Prop) : Prop := ∀ (a0 a1 : Int32) (σ τ : Mm), Rel σ τ → ∃ (r : Int32) (σ' : Mm) (τ' : Mm), fX5_seen a0 a1 σ = some (r, σ') ∧ fX6_seen a0 a1 τ = some (r, τ') ∧ Rel σ' τ'
def lawG_19 (Rel : Mm → Mm → Prop) : Prop := ∀ (σ τ : Mm), Rel σ τ → ∃ (r : Int32) (τ' : Mm), fX5_cheats  σ = some r ∧ fX6_cheats  τ = some (r, τ') ∧ Rel σ τ'
def lawG_20 (Rel : Mm → Mm → Prop) : Prop := ∀ (a0 a1 a2 : Int32) (σ τ : Mm), Rel σ τ → ∃ (r : Int32) (σ' : Mm) (τ' : Mm), fX5_lots a0 a1 a2 σ = some (r, σ') ∧ fX6_lots a0 a1 a2 τ = some (r, τ') ∧ Rel σ' τ'
def lawG_21 (Rel : Mm → Mm → Prop) : Prop := ∀ (σ τ : Mm), Rel σ τ → ∃ (r : Int32) (σ' : Mm) (τ' : Mm), fX5_image  σ = some (r, σ') ∧ fX6_image  τ = some (r, τ') ∧ Rel σ' τ'
def lawG_22 (Rel : Mm → Mm → Prop) : Prop := ∀ (σ τ : Mm), Rel σ τ → ∃ (r : Int32) (σ' : Mm) (τ' : Mm), fX5_on  σ = some (r, σ') ∧ fX6_on  τ = some (r, τ') ∧ Rel σ' τ'
def lawG_23 (Rel : Mm → Mm → Prop) : Prop := ∀ (a0 : Int32) (σ τ : Mm), Rel σ τ → ∃ (r : Int32), fX5_count a0 σ = some r ∧ fX6_count a0 τ = some r ∧ Rel σ τ
def lawG (Rel : Mm → Mm → Prop) : Prop := lawG_0 Rel ∧ lawG_1 Rel ∧ lawG_2 Rel ∧ lawG_3 Rel ∧ lawG_4 Rel ∧ lawG_5 Rel ∧ lawG_6 Rel ∧ lawG_7 Rel ∧ lawG_8 Rel ∧ lawG_9 Rel ∧ lawG_10 Rel ∧ lawG_11 Rel ∧ lawG_12 Rel ∧ lawG_13 Rel ∧ lawG_14 Rel ∧ lawG_15 Rel ∧ lawG_16 Rel ∧ lawG_17 Rel ∧ lawG_18 Rel ∧ lawG_19 Rel ∧ lawG_20 Rel ∧ lawG_21 Rel ∧ lawG_22 Rel ∧ lawG_23 Rel
end
section
/-! THE RELATION OF THE TWO MEMORIES, and plain facts of numbers -/
theorem ob {α β : Type} {a : α} {f : α → Option β} : (some a).bind f = f a := rfl
theorem fa_lt (a b : Int32) : a < b ↔ a.toInt < b.toInt := Int32.lt_iff_toInt_lt
theorem fa_le (a b : Int32) : a ≤ b ↔ a.toInt ≤ b.toInt := Int32.le_iff_toInt_le
theorem fa_eq (a b : Int32) : a = b ↔ a.toInt = b.toInt := Int32.toInt_inj.symm
theorem nlt {a b : Int32} (h : a < b) : ¬ b ≤ a := by rw [fa_le]; rw [fa_lt] at h; omega
theorem nle {a b : Int32} (h : a ≤ b) : ¬ b < a := by rw [fa_lt]; rw [fa_le] at h; omega
theorem lt_of {a b : Int32} (h : ¬ a ≤ b) : b < a := by rw [fa_lt]; rw [fa_le] at h; omega
theorem le_of {a b : Int32} (h : ¬ a < b) : b ≤ a := by rw [fa_le]; rw [fa_lt] at h; omega
/-- a number from nought to a bound is one of the naturals -/
theorem nI_le_of {x : Int32} {M : Int32} (n : Nat) (hM : M.toInt = n) (h0 : ¬ x < 0) (h1 : x ≤ M) : ∃ j : Nat, j ≤ n ∧ x = nI j := nI_of2 hM h0 h1
theorem nI_cl {n : Nat} (h : n < 2 ^ 31) : (nI n).toNatClampNeg = n := nI_clamp h
theorem ci_nI {n N : Nat} (h : n < N) (hN : N < 2 ^ 31) : ci (nI n) N = true := by
  have h1 : ¬ nI n < 0 := nI_pos (by omega)
  simp [ci, nI_clamp (show n < 2 ^ 31 by omega), h, le_of h1]
theorem ifp {α : Type} {c : Prop} [Decidable c] (h : c) (a b : α) : (if c then a else b) = a := if_pos h
theorem ifn {α : Type} {c : Prop} [Decidable c] (h : ¬ c) (a b : α) : (if c then a else b) = b := if_neg h
/-! what is told: s 0 MOST, 1 CHANCE, 2 LEAN and 5, 3 KIND, 4 FIGURE, 5 how many were seen, 6 + 2 k how many children, 7 + 2 k their sorts -/
def Vs (s : Nat → Nat) : Prop := 1 ≤ s 0 ∧ s 0 ≤ 10 ∧ 1 ≤ s 1 ∧ s 1 ≤ 11 ∧ s 2 ≤ 10 ∧ s 3 < 6 ∧ 1 ≤ s 4 ∧ s 4 ≤ 9 ∧ s 5 ≤ 8 ∧ ∀ k, k < s 5 → 1 ≤ s (6 + 2 * k) ∧ s (6 + 2 * k) ≤ 10 ∧ s (7 + 2 * k) < 1024
def TO (σ : Mm) (i : Nat) (s : Nat → Nat) : Prop := gI σ i 2 = nI (s 0) ∧ gI σ i 3 = nI (s 1) ∧ gI σ i 4 = nI (s 2) - 5 ∧ gI σ i 0 = nI (s 3) ∧ gI σ i 1 = nI (s 4) ∧ gI σ i 5 = nI (s 5) ∧ ∀ k, k < s 5 → gI σ (i + 1) k = nI (s (6 + 2 * k)) ∧ gI σ (i + 2) k = nI (s (7 + 2 * k))
def MO (τ : Mm) (j : Nat) (s : Nat → Nat) : Prop := gI τ j 0 = nI (s 0) ∧ gI τ j 1 = nI (s 1) ∧ gI τ j 2 = nI (s 2) ∧ gI τ j 3 = nI (s 3) ∧ gI τ j 4 = nI (s 4) ∧ gI τ j 5 = nI (s 5) ∧ ∀ k, k < s 5 → gI τ j (6 + 2 * k) = nI (s (6 + 2 * k)) ∧ gI τ j (7 + 2 * k) = nI (s (7 + 2 * k))
def bI (b : Bool) : Int32 := if b then 1 else 0
/-! the laws -/
def stp (k f o z r : Nat) : Bool := match k with
  | 0 => decide (0 < r)
  | 1 => decide (f ≤ o)
  | 2 => decide (o = z + f)
  | 3 => decide (o = z)
  | 4 => decide (f ≤ r)
  | _ => decide (0 < o) && decide (0 < z)
/-- whether a family ends, with n children, o of sort 1, the latest r of sort 1 -/
def ends (k f m n o r : Nat) : Bool := decide (m ≤ n) || stp k f o (n - o) r
/-- of how many twelfths a child behind n is of sort 1, the latest r of sort 1; L is LEAN and 5 -/
def twf (c L n r : Nat) : Nat := if n = 0 then c else if 0 < r then min 12 (c + L - 5) else min 12 (c + 5 - L)
/-- what a measure comes to over all families behind a family that goes on, in parts of 12 to the j; n children and j to come at most -/
def vv (k f m c L : Nat) (μ : Nat → Nat → Nat → Nat) : Nat → Nat → Nat → Nat → Nat → Nat
  | 0, n, e, o, _ => μ e o (n - o)
  | j + 1, n, e, o, r => if ends k f m n o r then μ e o (n - o) * 12 ^ (j + 1) else twf c L n r * vv k f m c L μ j (n + 1) e (o + 1) (r + 1) + (12 - twf c L n r) * vv k f m c L μ j (n + 1) e o 0
/-- over all families, in parts of 12 to the (j + 1) -/
def tot (k f m c L j : Nat) (μ : Nat → Nat → Nat → Nat) : Nat := c * vv k f m c L μ j 1 1 1 1 + (12 - c) * vv k f m c L μ j 1 0 0 0
def sm (f : Nat → Nat) : Nat → Nat
  | 0 => 0
  | n + 1 => sm f n + f n
/-- the cells of a tally's ends: by the sort of the eldest, how many of sort 1, of sort 0 -/
def talOK (k f m c L : Nat) (ee : Nat → Nat) : Prop := ∀ μ : Nat → Nat → Nat → Nat, sm (fun j => ee j * μ (j / 121) (j / 11 % 11) (j % 11)) 242 = tot k f m c L 9 μ
def CV (σ : Mm) (t : Nat) : Prop := gI σ t 2 = -1 ∨ ∃ k f m c L : Nat, ∃ ee : Nat → Nat, (k < 6 ∧ f ≤ 9 ∧ 1 ≤ m ∧ m ≤ 10 ∧ 1 ≤ c ∧ c ≤ 11 ∧ L ≤ 10) ∧ gI σ t 2 = nI k ∧ gI σ t 3 = nI f ∧ gI σ t 4 = nI m ∧ gI σ t 5 = nI c ∧ gI σ t 6 = nI L - 5 ∧ (∀ j, j < 242 → gL σ (t + 2) j = lN (ee j)) ∧ talOK k f m c L ee
def WK (σ : Mm) : Prop := (gH σ = 36 ∧ gN σ = 38) ∨ (gH σ = 38 ∧ gN σ = 36)
def RT (σ : Mm) : Prop := (∀ t, isTal t = true → CV σ t) ∧ WK σ
def VV (s g : Nat → Nat) (im : Bool) (tx : Nat → Nat) (tn rn rb : Nat) : Prop := Vs s ∧ (im = true → Vs g) ∧ tn ≤ 64 ∧ (∀ k, k < tn → tx k < 256) ∧ rn ≤ 10 ∧ rb < 2 ^ rn
def RX (σ : Mm) (s g : Nat → Nat) (im : Bool) (tx : Nat → Nat) (tn rn rb : Nat) (rf : Nat → Nat) : Prop := TO σ 1 s ∧ gI σ 0 3 = bI im ∧ (im = true → TO σ 7 g) ∧ gI σ 10 1 = nI tn ∧ (∀ k, k < tn → gI σ 11 k = nI (tx k)) ∧ gI σ 0 5 = nI rn ∧ gI σ 0 6 = nI rb ∧ ∀ k, k < 6 → gI σ 12 k = nI (rf (k + 1))
def RM (τ : Mm) (s g : Nat → Nat) (im : Bool) (tx : Nat → Nat) (tn rn rb : Nat) (rf : Nat → Nat) : Prop := MO τ 2 s ∧ gI τ 0 4 = bI im ∧ (im = true → MO τ 3 g) ∧ gI τ 0 7 = nI tn ∧ (∀ k, k < tn → gI τ 5 k = nI (tx k)) ∧ gI τ 0 26 = nI rn ∧ gI τ 0 27 &&& nI (2 ^ rn - 1) = nI rb ∧ ∀ k, k < 6 → gI τ 1 (k + 1) = nI (rf (k + 1))
def Rel (σ τ : Mm) : Prop := ∃ (s g : Nat → Nat) (im : Bool) (tx : Nat → Nat) (tn rn rb : Nat) (rf : Nat → Nat), VV s g im tx tn rn rb ∧ RX σ s g im tx tn rn rb rf ∧ RT σ ∧ RM τ s g im tx tn rn rb rf
theorem CV_pI {σ : Mm} {i k t : Nat} {v : Int32} (ht : isTal t = true) (hi : i < 14) (h : CV σ t) : CV (pI σ i k v) t := by
  have h1 := tal_iff.mp ht
  have e : gI (pI σ i k v) t = gI σ t := gI_ne (by omega)
  unfold CV at h ⊢
  rw [e]
  exact h
theorem RT_pI {σ : Mm} {i k : Nat} {v : Int32} (hi : i < 14) (h : RT σ) : RT (pI σ i k v) := ⟨fun t ht => CV_pI ht hi (h.1 t ht), h.2⟩
/-! refusals -/
def rfu (rf : Nat → Nat) (c : Nat) : Nat → Nat := fun k => if k = c then rf c + 1 else rf k
theorem x_ref2 (σ : Mm) : fX5_refuse (-2) σ = some (-2, pI σ 12 1 (gI σ 12 1 + 1)) := by rfl
theorem x_ref3 (σ : Mm) : fX5_refuse (-3) σ = some (-3, pI σ 12 2 (gI σ 12 2 + 1)) := by rfl
theorem x_ref4 (σ : Mm) : fX5_refuse (-4) σ = some (-4, pI σ 12 3 (gI σ 12 3 + 1)) := by rfl
theorem x_ref6 (σ : Mm) : fX5_refuse (-6) σ = some (-6, pI σ 12 5 (gI σ 12 5 + 1)) := by rfl
theorem m_ref2 (σ : Mm) : fX6_refuse (-2) σ = some (-2, pI σ 1 2 (gI σ 1 2 + 1)) := by rfl
theorem m_ref3 (σ : Mm) : fX6_refuse (-3) σ = some (-3, pI σ 1 3 (gI σ 1 3 + 1)) := by rfl
theorem m_ref4 (σ : Mm) : fX6_refuse (-4) σ = some (-4, pI σ 1 4 (gI σ 1 4 + 1)) := by rfl
theorem m_ref6 (σ : Mm) : fX6_refuse (-6) σ = some (-6, pI σ 1 6 (gI σ 1 6 + 1)) := by rfl
theorem RX_ref {σ : Mm} {s g tx rf : Nat → Nat} {im : Bool} {tn rn rb : Nat} (c : Nat) (hc : c < 6) (h : RX σ s g im tx tn rn rb rf) : RX (pI σ 12 c (gI σ 12 c + 1)) s g im tx tn rn rb (rfu rf (c + 1)) := by
  obtain ⟨h1, h2, h3, h4, h5, h6, h7, h8⟩ := h
  unfold RX TO
  unfold TO at h1 h3
  simp only [gI_pI]
  refine ⟨by simpa using h1, by simpa using h2, by simpa using h3, by simpa using h4, by simpa using h5, by simpa using h6, by simpa using h7, fun k hk => ?_⟩
  by_cases e : k = c
  · subst e
    simp [rfu, h8 k hk, nI_1]
  · simp [rfu, e, h8 k hk]
theorem RM_ref {τ : Mm} {s g tx rf : Nat → Nat} {im : Bool} {tn rn rb : Nat} (c : Nat) (hc : c < 6) (h : RM τ s g im tx tn rn rb rf) : RM (pI τ 1 (c + 1) (gI τ 1 (c + 1) + 1)) s g im tx tn rn rb (rfu rf (c + 1)) := by
  obtain ⟨h1, h2, h3, h4, h5, h6, h7, h8⟩ := h
  unfold RM MO
  unfold MO at h1 h3
  simp only [gI_pI]
  refine ⟨by simpa using h1, by simpa using h2, by simpa using h3, by simpa using h4, by simpa using h5, by simpa using h6, by simpa using h7, fun k hk => ?_⟩
  by_cases e : k = c
  · subst e
    simp [rfu, h8 k hk, nI_1]
  · simp [rfu, e, h8 k hk]
theorem Rel_ref {σ τ : Mm} (c : Nat) (hc : c < 6) (h : Rel σ τ) : Rel (pI σ 12 c (gI σ 12 c + 1)) (pI τ 1 (c + 1) (gI τ 1 (c + 1) + 1)) := by
  obtain ⟨s, g, im, tx, tn, rn, rb, rf, hV, hX, hT, hM⟩ := h
  exact ⟨s, g, im, tx, tn, rn, rb, _, hV, RX_ref c hc hX, RT_pI (by omega) hT, RM_ref c hc hM⟩
theorem x_refL2 (σ : Mm) : fX5_refuseLong (-2) σ = some (4000000000000000002, pI σ 12 1 (gI σ 12 1 + 1)) := by
  rw [fX5_refuseLong, x_ref2, ob, show (4000000000000000000 : Int64) - (-2 : Int32).toInt64 = 4000000000000000002 by decide]
theorem x_refL4 (σ : Mm) : fX5_refuseLong (-4) σ = some (4000000000000000004, pI σ 12 3 (gI σ 12 3 + 1)) := by
  rw [fX5_refuseLong, x_ref4, ob, show (4000000000000000000 : Int64) - (-4 : Int32).toInt64 = 4000000000000000004 by decide]
theorem x_refL6 (σ : Mm) : fX5_refuseLong (-6) σ = some (4000000000000000006, pI σ 12 5 (gI σ 12 5 + 1)) := by
  rw [fX5_refuseLong, x_ref6, ob, show (4000000000000000000 : Int64) - (-6 : Int32).toInt64 = 4000000000000000006 by decide]
theorem m_refL2 (σ : Mm) : fX6_refuseWide (-2) σ = some (4000000000000000002, pI σ 1 2 (gI σ 1 2 + 1)) := by
  rw [fX6_refuseWide, m_ref2, ob, show (4000000000000000000 : Int64) - (-2 : Int32).toInt64 = 4000000000000000002 by decide]
theorem m_refL4 (σ : Mm) : fX6_refuseWide (-4) σ = some (4000000000000000004, pI σ 1 4 (gI σ 1 4 + 1)) := by
  rw [fX6_refuseWide, m_ref4, ob, show (4000000000000000000 : Int64) - (-4 : Int32).toInt64 = 4000000000000000004 by decide]
theorem m_refL6 (σ : Mm) : fX6_refuseWide (-6) σ = some (4000000000000000006, pI σ 1 6 (gI σ 1 6 + 1)) := by
  rw [fX6_refuseWide, m_ref6, ob, show (4000000000000000000 : Int64) - (-6 : Int32).toInt64 = 4000000000000000006 by decide]
/-! small functions -/
theorem m_isIn (x : Int32) (n : Int32) : fX6_isIn x n = some (if x < 0 ∨ n ≤ x then 0 else 1) := by
  unfold fX6_isIn
  by_cases h1 : x < 0
  · simp [h1]
  · by_cases h2 : n ≤ x <;> simp [h1, h2]
theorem m_within (x a b : Int32) : fX6_within x a b = some (if x < a then -4 else if b < x then -6 else 0) := by
  unfold fX6_within
  by_cases h1 : a ≤ x
  · rw [ifp h1, ifn (nle h1)]
    by_cases h2 : x ≤ b
    · rw [ifp h2, ifn (nle h2)]
    · rw [ifn h2, ifp (lt_of h2)]
  · rw [ifn h1, ifp (lt_of h1)]
theorem x_noSort (x : Int32) : fX5_isNoSort x = some (if x < 0 ∨ 1 < x then 1 else 0) := by
  unfold fX5_isNoSort
  by_cases h1 : x < 0
  · simp [h1]
  · by_cases h2 : x ≤ 1
    · have h3 := nle h2
      simp [h1, h2, h3]
    · have h3 := lt_of h2
      simp [h1, h2, h3]
/-! plain facts of the kit's pages (pasted): fa_, fb_, s_l -/
theorem fb_rng (x : Int32) : -2147483648 ≤ x.toInt ∧ x.toInt < 2147483648 := by
  have h1 := Int32.le_toInt x
  have h2 := Int32.toInt_lt x
  omega
theorem fb_bmod {z : Int} (h1 : -2147483648 ≤ z) (h2 : z < 2147483648) : z.bmod (2 ^ 32) = z := by
  rw [Int.bmod_eq_of_le (by omega) (by omega)]
theorem fb_addI {x y : Int32} (h1 : -2147483648 ≤ x.toInt + y.toInt) (h2 : x.toInt + y.toInt < 2147483648) : (x + y).toInt = x.toInt + y.toInt := by
  rw [Int32.toInt_add, fb_bmod h1 h2]
theorem fb_subI {x y : Int32} (h1 : -2147483648 ≤ x.toInt - y.toInt) (h2 : x.toInt - y.toInt < 2147483648) : (x - y).toInt = x.toInt - y.toInt := by
  rw [Int32.toInt_sub, fb_bmod h1 h2]
theorem s_l : ∀ n, n < 32 → ((nI n &&& 31).toBitVec.smod 32).toNat = n := by decide +kernel
theorem fa_and (a b : Nat) : nI a &&& nI b = nI (a &&& b) := by
  apply Int32.toBitVec_inj.1
  show BitVec.ofNat 32 a &&& BitVec.ofNat 32 b = BitVec.ofNat 32 (a &&& b)
  apply BitVec.eq_of_getLsbD_eq
  intro i hi
  simp [hi]
theorem fa_or (a b : Nat) : nI a ||| nI b = nI (a ||| b) := by
  apply Int32.toBitVec_inj.1
  show BitVec.ofNat 32 a ||| BitVec.ofNat 32 b = BitVec.ofNat 32 (a ||| b)
  apply BitVec.eq_of_getLsbD_eq
  intro i hi
  simp [hi]
theorem fa_mask (n k : Nat) : nI n &&& nI (2 ^ k - 1) = nI (n % 2 ^ k) := by rw [fa_and, Nat.and_two_pow_sub_one_eq_mod]
/-- a low part, and a bit above it -/
theorem or_bit {a n : Nat} (b : Nat) (h : a < 2 ^ n) : nI a ||| nI (b * 2 ^ n) = nI (a + b * 2 ^ n) := by
  rw [fa_or, Nat.or_comm, Nat.mul_comm, ← Nat.two_pow_add_eq_or_of_lt h, Nat.add_comm]
theorem shl_n {a n : Nat} (hn : n < 31) (h : a * 2 ^ n < 2 ^ 32) : nI a <<< (nI n &&& 31) = nI (a * 2 ^ n) := pk_shlN _ n (s_l n (by omega)) h
theorem shr_n {a n : Nat} (hn : n < 31) (ha : a < 2 ^ 31) : nI a >>> (nI n &&& 31) = nI (a / 2 ^ n) := pk_shrN ha _ n (s_l n (by omega))
theorem and_1 (a : Nat) : nI a &&& 1 = nI (a % 2) := by
  have h := fa_mask a 1
  exact h
theorem bI_0 {b : Bool} : bI b = 0 ↔ b = false := by cases b <;> decide
theorem nI_sub_eq {o z f : Nat} (ho : o < 2 ^ 20) (hz : z < 2 ^ 20) (hf : f < 2 ^ 20) : nI o - nI z = nI f ↔ o = z + f := by
  rw [fa_eq, pk_sub_toInt (by omega) (by omega), nI_toInt (by omega)]
  omega
/-- the class's law, and the reference's -/
theorem x_stops {k f o z r : Nat} (hk : k < 6) (hf : f < 2 ^ 20) (ho : o < 2 ^ 20) (hz : z < 2 ^ 20) (hr : r < 2 ^ 20) : fX5_lawStops (nI k) (nI f) (nI o) (nI z) (nI r) = some (bI (stp k f o z r)) := by
  have e0 : ∀ n : Nat, n < 2 ^ 20 → (nI n ≤ 0 ↔ n = 0) := fun n hn => by
    rw [show (0 : Int32) = nI 0 from rfl, nI_leI (by omega) (by omega)]; omega
  rcases (show k = 0 ∨ k = 1 ∨ k = 2 ∨ k = 3 ∨ k = 4 ∨ k = 5 by omega) with rfl | rfl | rfl | rfl | rfl | rfl
  · rw [fX5_lawStops, ifp (by decide)]
    by_cases h : r = 0
    · rw [ifp ((e0 r hr).mpr h)]; simp [stp, bI, h]
    · rw [ifn (fun q => h ((e0 r hr).mp q))]; simp [stp, bI, Nat.pos_of_ne_zero h]
  · rw [fX5_lawStops, ifn (by decide), ifp (by decide)]
    by_cases h : f ≤ o
    · rw [ifn (by rw [nI_ltI (by omega) (by omega)]; omega)]; simp [stp, bI, h]
    · rw [ifp (by rw [nI_ltI (by omega) (by omega)]; omega)]; simp [stp, bI, h]
  · rw [fX5_lawStops, ifn (by decide), ifn (by decide), ifp (by decide)]
    by_cases h : o = z + f
    · rw [ifp ((nI_sub_eq ho hz hf).mpr h)]; simp [stp, bI, h]
    · rw [ifn (fun q => h ((nI_sub_eq ho hz hf).mp q))]; simp [stp, bI, h]
  · rw [fX5_lawStops, ifn (by decide), ifn (by decide), ifn (by decide), ifp (by decide)]
    by_cases h : o = z <;> simp [nI_eq (show o < 2 ^ 31 by omega) (show z < 2 ^ 31 by omega), stp, bI, h]
  · rw [fX5_lawStops, ifn (by decide), ifn (by decide), ifn (by decide), ifn (by decide), ifp (by decide)]
    by_cases h : f ≤ r
    · rw [ifn (by rw [nI_ltI (by omega) (by omega)]; omega)]; simp [stp, bI, h]
    · rw [ifp (by rw [nI_ltI (by omega) (by omega)]; omega)]; simp [stp, bI, h]
  · rw [fX5_lawStops, ifn (by decide), ifn (by decide), ifn (by decide), ifn (by decide), ifn (by decide), ifp (by decide)]
    by_cases h : o = 0
    · rw [ifp ((e0 o ho).mpr h)]; simp [stp, bI, h]
    · rw [ifn (fun q => h ((e0 o ho).mp q))]
      by_cases h2 : z = 0
      · rw [ifp ((e0 z hz).mpr h2)]; simp [stp, bI, h2]
      · rw [ifn (fun q => h2 ((e0 z hz).mp q))]; simp [stp, bI, Nat.pos_of_ne_zero h, Nat.pos_of_ne_zero h2]
theorem m_stops {k f o z r : Nat} (hk : k < 6) (hf : f < 2 ^ 20) (ho : o < 2 ^ 20) (hz : z < 2 ^ 20) (hr : r < 2 ^ 20) : fX6_stopsBy (nI k) (nI f) (nI o) (nI z) (nI r) = some (bI (stp k f o z r)) := by
  have e0 : ∀ n : Nat, n < 2 ^ 20 → (nI n ≤ 0 ↔ n = 0) := fun n hn => by
    rw [show (0 : Int32) = nI 0 from rfl, nI_leI (by omega) (by omega)]; omega
  rcases (show k = 0 ∨ k = 1 ∨ k = 2 ∨ k = 3 ∨ k = 4 ∨ k = 5 by omega) with rfl | rfl | rfl | rfl | rfl | rfl
  · rw [fX6_stopsBy, ifp (by decide)]
    by_cases h : r = 0
    · rw [ifp ((e0 r hr).mpr h)]; simp [stp, bI, h]
    · rw [ifn (fun q => h ((e0 r hr).mp q))]; simp [stp, bI, Nat.pos_of_ne_zero h]
  · rw [fX6_stopsBy, ifn (by decide), ifp (by decide)]
    by_cases h : f ≤ o
    · rw [ifn (by rw [nI_ltI (by omega) (by omega)]; omega)]; simp [stp, bI, h]
    · rw [ifp (by rw [nI_ltI (by omega) (by omega)]; omega)]; simp [stp, bI, h]
  · rw [fX6_stopsBy, ifn (by decide), ifn (by decide), ifp (by decide)]
    by_cases h : o = z + f
    · rw [ifp ((nI_sub_eq ho hz hf).mpr h)]; simp [stp, bI, h]
    · rw [ifn (fun q => h ((nI_sub_eq ho hz hf).mp q))]; simp [stp, bI, h]
  · rw [fX6_stopsBy, ifn (by decide), ifn (by decide), ifn (by decide), ifp (by decide)]
    by_cases h : o = z <;> simp [nI_eq (show o < 2 ^ 31 by omega) (show z < 2 ^ 31 by omega), stp, bI, h]
  · rw [fX6_stopsBy, ifn (by decide), ifn (by decide), ifn (by decide), ifn (by decide), ifp (by decide)]
    by_cases h : f ≤ r
    · rw [ifn (by rw [nI_ltI (by omega) (by omega)]; omega)]; simp [stp, bI, h]
    · rw [ifp (by rw [nI_ltI (by omega) (by omega)]; omega)]; simp [stp, bI, h]
  · rw [fX6_stopsBy, ifn (by decide), ifn (by decide), ifn (by decide), ifn (by decide), ifn (by decide)]
    by_cases h : o = 0
    · rw [ifp ((e0 o ho).mpr h)]; simp [stp, bI, h]
    · rw [ifn (fun q => h ((e0 o ho).mp q))]
      by_cases h2 : z = 0
      · rw [ifp ((e0 z hz).mpr h2)]; simp [stp, bI, h2]
      · rw [ifn (fun q => h2 ((e0 z hz).mp q))]; simp [stp, bI, Nat.pos_of_ne_zero h, Nat.pos_of_ne_zero h2]
/-- the reference's 'ends' -/
theorem m_ends {τ : Mm} {s : Nat → Nat} (h : MO τ 2 s) (hs : Vs s) {k o z r : Nat} (hk : k < 6) (ho : o < 2 ^ 19) (hz : z < 2 ^ 19) (hr : r < 2 ^ 19) : fX6_endsBy (nI k) (nI o) (nI z) (nI r) τ = some (bI (decide (s 0 ≤ o + z) || stp k (s 4) o z r)) := by
  obtain ⟨h0, h1, h2, h3, h4, h5, h6⟩ := h
  obtain ⟨u0, u1, u2, u3, u4, u5, u6, u7, u8, u9⟩ := hs
  rw [fX6_endsBy, ifp (by decide), show (0 : Int32).toNatClampNeg = 0 from rfl, h0, nI_add]
  by_cases h : s 0 ≤ o + z
  · rw [ifp (by rw [nI_leI (by omega) (by omega)]; exact h)]
    simp [h, bI]
  · rw [ifn (by rw [nI_leI (by omega) (by omega)]; exact h), ifp (by decide), show (4 : Int32).toNatClampNeg = 4 from rfl, h4, m_stops hk (by omega) (by omega) (by omega) (by omega), ob]
    cases stp k (s 4) o z r <;> simp [bI, h]
theorem nI_m5 {L : Nat} (h : L ≤ 10) : (nI L - 5).toInt = (L : Int) - 5 := by
  rw [show (5 : Int32) = nI 5 from rfl, pk_sub_toInt (by omega) (by omega)]; rfl
theorem nI_of_toInt {x : Int32} {n : Nat} (hn : n < 2 ^ 31) (h : x.toInt = n) : x = nI n := by
  rw [fa_eq, nI_toInt hn]; exact h
/-- how likely the next child is of sort 1: the class -/
theorem x_chance {c L n r : Nat} (hc1 : 1 ≤ c) (hc : c ≤ 11) (hL : L ≤ 10) (hn : n < 2 ^ 20) (hr : r < 2 ^ 20) : fX5_chanceOfOne (nI c) (nI L - 5) (nI n) (nI r) = some (nI (twf c L n r)) := by
  have t12 : (12 : Int32).toInt = 12 := rfl
  have t0 : (0 : Int32).toInt = 0 := rfl
  have tc : (nI c).toInt = c := nI_toInt (by omega)
  have tL := nI_m5 hL
  by_cases h0 : n = 0
  · subst h0
    rw [fX5_chanceOfOne, ifp (show nI 0 = 0 from rfl)]
    simp [twf]
  · have e0 : ¬ nI n = 0 := nI_ne0 (by omega) (by omega)
    by_cases h1 : r = 0
    · subst h1
      have hs : (nI c - (nI L - 5)).toInt = (c : Int) - ((L : Int) - 5) := by rw [fb_subI (by omega) (by omega), tc, tL]
      rw [fX5_chanceOfOne, ifn e0, ifp (by decide)]
      congr 1
      apply nI_of_toInt (by simp [twf, h0]; omega)
      simp only [fa_lt, hs, t12, t0]
      simp only [twf, h0, if_false, Nat.lt_irrefl]
      split <;> split <;> simp_all <;> omega
    · have hs : (nI c + (nI L - 5)).toInt = (c : Int) + ((L : Int) - 5) := by rw [fb_addI (by omega) (by omega), tc, tL]
      have e1 : ¬ nI r ≤ 0 := nI_nle (by omega) (by omega)
      rw [fX5_chanceOfOne, ifn e0, ifn e1]
      congr 1
      apply nI_of_toInt (by simp [twf, h0, Nat.pos_of_ne_zero h1]; omega)
      simp only [fa_lt, hs, t12, t0]
      simp only [twf, h0, if_false, Nat.pos_of_ne_zero h1, if_true]
      split <;> split <;> simp_all <;> omega
end
section
/-! THE PLAIN CALLS: letter, law, set, stops, row, seen, image, on, count -/
theorem Rel_of {σ τ : Mm} {s g : Nat → Nat} {im : Bool} {tx : Nat → Nat} {tn rn rb : Nat} {rf : Nat → Nat} (hV : VV s g im tx tn rn rb) (hX : RX σ s g im tx tn rn rb rf) (hT : RT σ) (hM : RM τ s g im tx tn rn rb rf) : Rel σ τ := ⟨s, g, im, tx, tn, rn, rb, rf, hV, hX, hT, hM⟩
theorem G0 : lawG_0 Rel := by
  intro a0 σ τ hR
  have hRel := hR
  obtain ⟨s, g, im, tx, tn, rn, rb, rf, hV, hX, hT, hM⟩ := hR
  obtain ⟨v1, v2, v3, v4, v5, v6⟩ := hV
  obtain ⟨x1, x2, x3, x4, x5, x6, x7, x8⟩ := hX
  obtain ⟨m1, m2, m3, m4, m5, m6, m7, m8⟩ := hM
  by_cases h1 : 0 ≤ a0
  · by_cases h2 : (255 : Int32) < a0
    · refine ⟨-6, _, _, ?_, ?_, Rel_ref 5 (by omega) hRel⟩
      · rw [fX5_letter, ifp h1, ifp h2, fX5_letter_30, x_ref6]; rfl
      · rw [fX6_letter, m_within, ob, ifn (nle h1), ifp h2, ifn (by decide), fX6_letter_25, ifn (by decide), m_ref6]; rfl
    · obtain ⟨j, hj, rfl⟩ := nI_le_of (M := 255) 255 rfl (nle h1) (le_of h2)
      by_cases h3 : tn < 64
      · refine ⟨nI (tn + 1), pI (pI σ 11 tn (nI j)) 10 1 (nI (tn + 1)), pI (pI τ 5 tn (nI j)) 0 7 (nI (tn + 1)), ?_, ?_, ?_⟩
        · have c1 : ¬ nI tn < 0 := nI_pos (by omega)
          have c2 : ¬ (64 : Int32) ≤ nI tn := fun q => absurd ((nI_leI (a := 64) (by omega) (by omega)).mp q) (by omega)
          have c3 : nI tn < (64 : Int32) := lt_of c2
          rw [fX5_letter, ifp h1, ifn h2, x4, ifp c3, fX2_append, x4, ifn c1, ifn c2, ifp (ci_nI h3 (by omega)), ob, nI_cl (by omega)]
          simp only [gI_pI]
          simp [x4, nI_1]
        · have c1 : ¬ nI tn = (64 : Int32) := fun q => absurd ((nI_eq (b := 64) (by omega) (by omega)).mp q) (by omega)
          rw [fX6_letter, m_within, ob, ifn (nle h1), ifn h2, ifp rfl, m4, ifn c1, fX6_letter_25, ifp rfl, m4, ifp (ci_nI h3 (by omega)), nI_cl (by omega)]
          simp only [gI_pI]
          simp [m4, nI_1]
        · refine Rel_of (s := s) (g := g) (im := im) (tx := fun k => if k = tn then j else tx k) (tn := tn + 1) (rn := rn) (rb := rb) (rf := rf) ⟨v1, v2, by omega, fun k hk => ?_, v5, v6⟩ ?_ (RT_pI (by omega) (RT_pI (by omega) hT)) ?_
          · by_cases e : k = tn
            · simp [e]; omega
            · simp [e]; exact v4 k (by omega)
          · unfold RX TO
            unfold TO at x1 x3
            simp only [gI_pI]
            refine ⟨by simpa using x1, by simpa using x2, by simpa using x3, by simp, fun k hk => ?_, by simpa using x6, by simpa using x7, by simpa using x8⟩
            by_cases e : k = tn
            · simp [e]
            · simp [e]; exact x5 k (by omega)
          · unfold RM MO
            unfold MO at m1 m3
            simp only [gI_pI]
            refine ⟨by simpa using m1, by simpa using m2, by simpa using m3, by simp, fun k hk => ?_, by simpa using m6, by simpa using m7, by simpa using m8⟩
            by_cases e : k = tn
            · simp [e]
            · simp [e]; exact m5 k (by omega)
      · have e3 : tn = 64 := by omega
        subst e3
        refine ⟨-6, _, _, ?_, ?_, Rel_ref 5 (by omega) hRel⟩
        · rw [fX5_letter, ifp h1, ifn h2, x4, ifn (by decide), fX5_letter_30, x_ref6]; rfl
        · rw [fX6_letter, m_within, ob, ifn (nle h1), ifn h2, ifp rfl, m4, ifp (show nI 64 = 64 from rfl), fX6_letter_25, ifn (by decide), m_ref6]; rfl
  · refine ⟨-4, _, _, ?_, ?_, Rel_ref 3 (by omega) hRel⟩
    · rw [fX5_letter, ifn h1, x_ref4]; rfl
    · rw [fX6_letter, m_within, ob, ifp (lt_of h1), ifn (by decide), fX6_letter_25, ifn (by decide), m_ref4]; rfl
theorem G2 : lawG_2 Rel := by
  intro a0 a1 σ τ hR
  have hRel := hR
  obtain ⟨s, g, im, tx, tn, rn, rb, rf, hV, hX, hT, hM⟩ := hR
  obtain ⟨⟨u0, u1, u2, u3, u4, u5, u6, u7, u8, u9⟩, v2, v3, v4, v5, v6⟩ := hV
  obtain ⟨⟨x1a, x1b, x1c, x1d, x1e, x1f, x1g⟩, x2, x3, x4, x5, x6, x7, x8⟩ := hX
  obtain ⟨⟨m1a, m1b, m1c, m1d, m1e, m1f, m1g⟩, m2, m3, m4, m5, m6, m7, m8⟩ := hM
  by_cases h1 : a0 < 0 ∨ (6 : Int32) ≤ a0
  · refine ⟨-2, _, _, ?_, ?_, Rel_ref 1 (by omega) hRel⟩
    · rcases h1 with h1 | h1
      · rw [fX5_law, ifp h1, fX5_law_10, x_ref2]; rfl
      · by_cases h2 : a0 < 0
        · rw [fX5_law, ifp h2, fX5_law_10, x_ref2]; rfl
        · rw [fX5_law, ifn h2, ifn (nle h1), fX5_law_10, x_ref2]; rfl
    · rw [fX6_law, m_isIn, ob, ifp h1, ifp rfl, fX6_law_21, ifn (by decide), m_ref2]; rfl
  · have h1a : ¬ a0 < 0 := fun q => h1 (Or.inl q)
    have h1b : a0 < (6 : Int32) := lt_of (fun q => h1 (Or.inr q))
    by_cases h2 : (1 : Int32) ≤ a1
    · by_cases h3 : a1 ≤ (9 : Int32)
      · obtain ⟨j, hj, rfl⟩ := nI_le_of (M := 5) (x := a0) 5 rfl h1a (by rw [fa_le]; rw [fa_lt] at h1b; have e1 : (6 : Int32).toInt = 6 := rfl; have e2 : (5 : Int32).toInt = 5 := rfl; omega)
        obtain ⟨f, hf, rfl⟩ := nI_le_of (M := 9) (x := a1) 9 rfl (by rw [fa_lt]; rw [fa_le] at h2; have e1 : (1 : Int32).toInt = 1 := rfl; have e2 : (0 : Int32).toInt = 0 := rfl; omega) h3
        have hf1 : 1 ≤ f := by
          have := (nI_leI (a := 1) (b := f) (by omega) (by omega)).mp h2
          exact this
        refine ⟨10 * nI (s 3) + nI (s 4), pI (pI σ 1 0 (nI j)) 1 1 (nI f), pI (pI τ 2 3 (nI j)) 2 4 (nI f), ?_, ?_, ?_⟩
        · rw [fX5_law, ifn h1a, ifp h1b, ifp h2, ifp h3, x1d, x1e]
        · rw [fX6_law, m_isIn, ob, ifn h1, ifn (by decide), m_within, ob, ifn (nle h2), ifn (nle h3), fX6_law_21, ifp rfl]
          show some ((10 * gI τ 2 3 + gI τ 2 4), _) = _
          rw [m1d, m1e]
          rfl
        · refine Rel_of (s := fun k => if k = 3 then j else if k = 4 then f else s k) (g := g) (im := im) (tx := tx) (tn := tn) (rn := rn) (rb := rb) (rf := rf) ⟨?_, v2, v3, v4, v5, v6⟩ ?_ (RT_pI (by omega) (RT_pI (by omega) hT)) ?_
          · refine ⟨u0, u1, u2, u3, u4, by simp; omega, by simpa using hf1, by simpa using hf, by simpa using u8, fun k hk => ?_⟩
            have e1 : ¬ 6 + 2 * k = 3 := by omega
            have e2 : ¬ 6 + 2 * k = 4 := by omega
            have e3 : ¬ 7 + 2 * k = 3 := by omega
            have e4 : ¬ 7 + 2 * k = 4 := by omega
            simp only [e1, e2, e3, e4, if_false]
            exact u9 k (by simpa using hk)
          · unfold RX TO
            unfold TO at x3
            simp only [gI_pI]
            refine ⟨⟨by simpa using x1a, by simpa using x1b, by simpa using x1c, by simp, by simp, by simpa using x1f, fun k hk => ?_⟩, by simpa using x2, by simpa using x3, by simpa using x4, by simpa using x5, by simpa using x6, by simpa using x7, by simpa using x8⟩
            have e1 : ¬ 6 + 2 * k = 3 := by omega
            have e2 : ¬ 6 + 2 * k = 4 := by omega
            have e3 : ¬ 7 + 2 * k = 3 := by omega
            have e4 : ¬ 7 + 2 * k = 4 := by omega
            simp only [e1, e2, e3, e4, if_false]
            simpa using x1g k (by simpa using hk)
          · unfold RM MO
            unfold MO at m3
            simp only [gI_pI]
            refine ⟨⟨by simpa using m1a, by simpa using m1b, by simpa using m1c, by simp, by simp, by simpa using m1f, fun k hk => ?_⟩, by simpa using m2, by simpa using m3, by simpa using m4, by simpa using m5, by simpa using m6, by simpa using m7, by simpa using m8⟩
            have e1 : ¬ 6 + 2 * k = 3 := by omega
            have e2 : ¬ 6 + 2 * k = 4 := by omega
            have e3 : ¬ 7 + 2 * k = 3 := by omega
            have e4 : ¬ 7 + 2 * k = 4 := by omega
            simp only [e1, e2, e3, e4, and_false, if_false]
            exact m1g k (by simpa using hk)
      · refine ⟨-6, _, _, ?_, ?_, Rel_ref 5 (by omega) hRel⟩
        · rw [fX5_law, ifn h1a, ifp h1b, ifp h2, ifn h3, x_ref6]; rfl
        · rw [fX6_law, m_isIn, ob, ifn h1, ifn (by decide), m_within, ob, ifn (nle h2), ifp (lt_of h3), fX6_law_21, ifn (by decide), m_ref6]; rfl
    · refine ⟨-4, _, _, ?_, ?_, Rel_ref 3 (by omega) hRel⟩
      · rw [fX5_law, ifn h1a, ifp h1b, ifn h2, x_ref4]; rfl
      · rw [fX6_law, m_isIn, ob, ifn h1, ifn (by decide), m_within, ob, ifp (lt_of h2), fX6_law_21, ifn (by decide), m_ref4]; rfl
/-! one scalar told -/
def su (s : Nat → Nat) (w j : Nat) : Nat → Nat := fun k => if k = w then j else s k
theorem su_hi {s : Nat → Nat} {w j k : Nat} (hw : w < 6) (hk : 6 ≤ k) : su s w j k = s k := by
  simp [su]; omega
theorem su_ne {s : Nat → Nat} {w j k : Nat} (h : k ≠ w) : su s w j k = s k := by simp [su, h]
theorem su_eq {s : Nat → Nat} {w j : Nat} : su s w j w = j := by simp [su]
theorem s5_cancel (x : Int32) : (5 : Int32) + (x - 5) = x := by rw [Int32.add_comm, Int32.sub_add_cancel]
theorem Rel_set {σ τ : Mm} {s g : Nat → Nat} {im : Bool} {tx : Nat → Nat} {tn rn rb : Nat} {rf : Nat → Nat} {w j : Nat} (hw : w < 3) (hj : j ≤ 11) (hj0 : w = 0 → 1 ≤ j ∧ j ≤ 10) (hj1 : w = 1 → 1 ≤ j) (hj2 : w = 2 → j ≤ 10) (hV : VV s g im tx tn rn rb) (hX : RX σ s g im tx tn rn rb rf) (hT : RT σ) (hM : RM τ s g im tx tn rn rb rf) :
    Rel (pI σ 1 (w + 2) (if w = 2 then nI j - 5 else nI j)) (pI τ 2 w (nI j)) := by
  obtain ⟨⟨u0, u1, u2, u3, u4, u5, u6, u7, u8, u9⟩, v2, v3, v4, v5, v6⟩ := hV
  obtain ⟨⟨x1a, x1b, x1c, x1d, x1e, x1f, x1g⟩, x2, x3, x4, x5, x6, x7, x8⟩ := hX
  obtain ⟨⟨m1a, m1b, m1c, m1d, m1e, m1f, m1g⟩, m2, m3, m4, m5, m6, m7, m8⟩ := hM
  refine Rel_of (s := su s w j) (g := g) (im := im) (tx := tx) (tn := tn) (rn := rn) (rb := rb) (rf := rf) ⟨?_, v2, v3, v4, v5, v6⟩ ?_ (RT_pI (by omega) hT) ?_
  · rcases (show w = 0 ∨ w = 1 ∨ w = 2 by omega) with rfl | rfl | rfl
    · refine ⟨by simpa [su] using (hj0 rfl).1, by simpa [su] using (hj0 rfl).2, by simpa [su] using u2, by simpa [su] using u3, by simpa [su] using u4, by simpa [su] using u5, by simpa [su] using u6, by simpa [su] using u7, by simpa [su] using u8, fun k hk => ?_⟩
      rw [su_hi (by omega) (by omega), su_hi (by omega) (by omega)]
      exact u9 k (by simpa [su] using hk)
    · refine ⟨by simpa [su] using u0, by simpa [su] using u1, by simpa [su] using hj1 rfl, by simpa [su] using hj, by simpa [su] using u4, by simpa [su] using u5, by simpa [su] using u6, by simpa [su] using u7, by simpa [su] using u8, fun k hk => ?_⟩
      rw [su_hi (by omega) (by omega), su_hi (by omega) (by omega)]
      exact u9 k (by simpa [su] using hk)
    · refine ⟨by simpa [su] using u0, by simpa [su] using u1, by simpa [su] using u2, by simpa [su] using u3, by simpa [su] using hj2 rfl, by simpa [su] using u5, by simpa [su] using u6, by simpa [su] using u7, by simpa [su] using u8, fun k hk => ?_⟩
      rw [su_hi (by omega) (by omega), su_hi (by omega) (by omega)]
      exact u9 k (by simpa [su] using hk)
  · unfold RX TO
    unfold TO at x3
    simp only [gI_pI]
    refine ⟨⟨?_, ?_, ?_, ?_, ?_, ?_, fun k hk => ?_⟩, by simpa using x2, by simpa using x3, by simpa using x4, by simpa using x5, by simpa using x6, by simpa using x7, by simpa using x8⟩
    · rcases (show w = 0 ∨ w = 1 ∨ w = 2 by omega) with rfl | rfl | rfl <;> simp [su, x1a]
    · rcases (show w = 0 ∨ w = 1 ∨ w = 2 by omega) with rfl | rfl | rfl <;> simp [su, x1b]
    · rcases (show w = 0 ∨ w = 1 ∨ w = 2 by omega) with rfl | rfl | rfl <;> simp [su, x1c]
    · rcases (show w = 0 ∨ w = 1 ∨ w = 2 by omega) with rfl | rfl | rfl <;> simp [su, x1d]
    · rcases (show w = 0 ∨ w = 1 ∨ w = 2 by omega) with rfl | rfl | rfl <;> simp [su, x1e]
    · rcases (show w = 0 ∨ w = 1 ∨ w = 2 by omega) with rfl | rfl | rfl <;> simp [su, x1f]
    · rw [su_hi (by omega) (by omega), su_hi (by omega) (by omega)]
      rw [su_ne (by omega)] at hk
      simpa using x1g k hk
  · unfold RM MO
    unfold MO at m3
    simp only [gI_pI]
    refine ⟨⟨?_, ?_, ?_, ?_, ?_, ?_, fun k hk => ?_⟩, by simpa using m2, by simpa using m3, by simpa using m4, by simpa using m5, by simpa using m6, by simpa using m7, by simpa using m8⟩
    · rcases (show w = 0 ∨ w = 1 ∨ w = 2 by omega) with rfl | rfl | rfl <;> simp [su, m1a]
    · rcases (show w = 0 ∨ w = 1 ∨ w = 2 by omega) with rfl | rfl | rfl <;> simp [su, m1b]
    · rcases (show w = 0 ∨ w = 1 ∨ w = 2 by omega) with rfl | rfl | rfl <;> simp [su, m1c]
    · rcases (show w = 0 ∨ w = 1 ∨ w = 2 by omega) with rfl | rfl | rfl <;> simp [su, m1d]
    · rcases (show w = 0 ∨ w = 1 ∨ w = 2 by omega) with rfl | rfl | rfl <;> simp [su, m1e]
    · rcases (show w = 0 ∨ w = 1 ∨ w = 2 by omega) with rfl | rfl | rfl <;> simp [su, m1f]
    · rw [su_hi (by omega) (by omega), su_hi (by omega) (by omega)]
      rw [su_ne (by omega)] at hk
      have e1 : ¬ 6 + 2 * k = w := by omega
      have e2 : ¬ 7 + 2 * k = w := by omega
      simp only [e1, e2, and_false, if_false]
      exact m1g k hk
theorem G3 : lawG_3 Rel := by
  intro a0 a1 σ τ hR
  have hRel := hR
  obtain ⟨s, g, im, tx, tn, rn, rb, rf, hV, hX, hT, hM⟩ := hR
  obtain ⟨x1a, x1b, x1c, x1d, x1e, x1f, x1g⟩ := hX.1
  obtain ⟨m1a, m1b, m1c, m1d, m1e, m1f, m1g⟩ := hM.1
  by_cases h1 : a0 < 0 ∨ (3 : Int32) ≤ a0
  · refine ⟨-2, _, _, ?_, ?_, Rel_ref 1 (by omega) hRel⟩
    · by_cases h2 : a0 < 0
      · rw [fX5_set, ifp h2, fX5_set_9, x_ref2]; rfl
      · have h3 : (3 : Int32) ≤ a0 := h1.resolve_left h2
        have h4 : ¬ a0 ≤ (2 : Int32) := by
          rw [fa_le]; rw [fa_le] at h3
          have e1 : (3 : Int32).toInt = 3 := rfl
          have e2 : (2 : Int32).toInt = 2 := rfl
          omega
        rw [fX5_set, ifn h2, ifn h4, fX5_set_9, x_ref2]; rfl
    · rw [fX6_set, m_isIn, ob, ifp h1, ifp rfl, fX6_set_39, ifn (by decide), m_ref2]; rfl
  · have h1a : ¬ a0 < 0 := fun q => h1 (Or.inl q)
    have h1b : a0 < (3 : Int32) := lt_of (fun q => h1 (Or.inr q))
    have h1c : a0 ≤ (2 : Int32) := by
      rw [fa_le]; rw [fa_lt] at h1b
      have e1 : (3 : Int32).toInt = 3 := rfl
      have e2 : (2 : Int32).toInt = 2 := rfl
      omega
    obtain ⟨w, hw, rfl⟩ := nI_le_of (M := 2) (x := a0) 2 rfl h1a h1c
    rcases (show w = 0 ∨ w = 1 ∨ w = 2 by omega) with rfl | rfl | rfl
    · by_cases h2 : (1 : Int32) ≤ a1
      · by_cases h3 : a1 ≤ (10 : Int32)
        · have h4 : ¬ a1 < 0 := by
            rw [fa_lt]; rw [fa_le] at h2
            have e1 : (1 : Int32).toInt = 1 := rfl
            have e2 : (0 : Int32).toInt = 0 := rfl
            omega
          obtain ⟨j, hj, rfl⟩ := nI_le_of (M := 10) (x := a1) 10 rfl h4 h3
          have hj1 : 1 ≤ j := (nI_leI (a := 1) (b := j) (by omega) (by omega)).mp h2
          refine ⟨nI (s 0), _, _, ?_, ?_, Rel_set (w := 0) (j := j) (by omega) (by omega) (fun _ => ⟨hj1, hj⟩) (fun q => by omega) (fun q => by omega) hV hX hT hM⟩
          · rw [fX5_set, ifn h1a, ifp h1c, fX3_least, ifn (by decide), ob, ifp h2, fX3_greatest, ifn (by decide), ob, ifp h3, fX3_number, ifn (by decide), ifn (by decide), ob, fX3_tellNumber, fX3_least, ifn (by decide), ob, ifn (nle h2), fX3_greatest, ifn (by decide), ob, ifp h3, ifn (by decide), ifn (by decide), ob, x1a]
            rfl
          · rw [fX6_set, m_isIn, ob, ifn h1, ifn (by decide), ifn (by decide), fX6_set_24, ifn (by decide), fX6_set_36, m_within, ob, ifn (nle h2), ifn (nle h3), fX6_set_39, ifp rfl, ifp (by decide), ifp (by decide)]
            show some (gI τ 2 0, _) = _
            rw [m1a]
            rfl
        · refine ⟨-6, _, _, ?_, ?_, Rel_ref 5 (by omega) hRel⟩
          · rw [fX5_set, ifn h1a, ifp h1c, fX3_least, ifn (by decide), ob, ifp h2, fX3_greatest, ifn (by decide), ob, ifn h3, x_ref6]; rfl
          · rw [fX6_set, m_isIn, ob, ifn h1, ifn (by decide), ifn (by decide), fX6_set_24, ifn (by decide), fX6_set_36, m_within, ob, ifn (nle h2), ifp (lt_of h3), fX6_set_39, ifn (by decide), m_ref6]; rfl
      · refine ⟨-4, _, _, ?_, ?_, Rel_ref 3 (by omega) hRel⟩
        · rw [fX5_set, ifn h1a, ifp h1c, fX3_least, ifn (by decide), ob, ifn h2, x_ref4]; rfl
        · rw [fX6_set, m_isIn, ob, ifn h1, ifn (by decide), ifn (by decide), fX6_set_24, ifn (by decide), fX6_set_36, m_within, ob, ifp (lt_of h2), fX6_set_39, ifn (by decide), m_ref4]; rfl
    · by_cases h2 : (1 : Int32) ≤ a1
      · by_cases h3 : a1 ≤ (11 : Int32)
        · have h4 : ¬ a1 < 0 := by
            rw [fa_lt]; rw [fa_le] at h2
            have e1 : (1 : Int32).toInt = 1 := rfl
            have e2 : (0 : Int32).toInt = 0 := rfl
            omega
          obtain ⟨j, hj, rfl⟩ := nI_le_of (M := 11) (x := a1) 11 rfl h4 h3
          have hj1 : 1 ≤ j := (nI_leI (a := 1) (b := j) (by omega) (by omega)).mp h2
          refine ⟨nI (s 1), _, _, ?_, ?_, Rel_set (w := 1) (j := j) (by omega) (by omega) (fun q => by omega) (fun q => hj1) (fun q => by omega) hV hX hT hM⟩
          · rw [fX5_set, ifn h1a, ifp h1c, fX3_least, ifn (by decide), ob, ifp h2, fX3_greatest, ifp (by decide), ob, ifp h3, fX3_number, ifn (by decide), ifp (by decide), ob, fX3_tellNumber, fX3_least, ifn (by decide), ob, ifn (nle h2), fX3_greatest, ifp (by decide), ob, ifp h3, ifn (by decide), ifp (by decide), ob, x1b]
            rfl
          · rw [fX6_set, m_isIn, ob, ifn h1, ifn (by decide), ifn (by decide), fX6_set_24, ifp (by decide), fX6_set_36, m_within, ob, ifn (nle h2), ifn (nle h3), fX6_set_39, ifp rfl, ifp (by decide), ifp (by decide)]
            show some (gI τ 2 1, _) = _
            rw [m1b]
            rfl
        · refine ⟨-6, _, _, ?_, ?_, Rel_ref 5 (by omega) hRel⟩
          · rw [fX5_set, ifn h1a, ifp h1c, fX3_least, ifn (by decide), ob, ifp h2, fX3_greatest, ifp (by decide), ob, ifn h3, x_ref6]; rfl
          · rw [fX6_set, m_isIn, ob, ifn h1, ifn (by decide), ifn (by decide), fX6_set_24, ifp (by decide), fX6_set_36, m_within, ob, ifn (nle h2), ifp (lt_of h3), fX6_set_39, ifn (by decide), m_ref6]; rfl
      · refine ⟨-4, _, _, ?_, ?_, Rel_ref 3 (by omega) hRel⟩
        · rw [fX5_set, ifn h1a, ifp h1c, fX3_least, ifn (by decide), ob, ifn h2, x_ref4]; rfl
        · rw [fX6_set, m_isIn, ob, ifn h1, ifn (by decide), ifn (by decide), fX6_set_24, ifp (by decide), fX6_set_36, m_within, ob, ifp (lt_of h2), fX6_set_39, ifn (by decide), m_ref4]; rfl
    · by_cases h2 : (0 : Int32) ≤ a1
      · by_cases h3 : a1 ≤ (10 : Int32)
        · obtain ⟨j, hj, rfl⟩ := nI_le_of (M := 10) (x := a1) 10 rfl (nle h2) h3
          refine ⟨nI (s 2), _, _, ?_, ?_, Rel_set (w := 2) (j := j) (by omega) (by omega) (fun q => by omega) (fun q => by omega) (fun _ => hj) hV hX hT hM⟩
          · rw [fX5_set, ifn h1a, ifp h1c, fX3_least, ifp (by decide), ob, ifp h2, fX3_greatest, ifn (by decide), ob, ifp h3, fX3_number, ifp (by decide), ob, fX3_tellNumber, fX3_least, ifp (by decide), ob, ifn (nle h2), fX3_greatest, ifn (by decide), ob, ifp h3, ifp (by decide), ob, x1c, s5_cancel]
            rfl
          · rw [fX6_set, m_isIn, ob, ifn h1, ifn (by decide), ifp (by decide), fX6_set_24, ifn (by decide), fX6_set_36, m_within, ob, ifn (nle h2), ifn (nle h3), fX6_set_39, ifp rfl, ifp (by decide), ifp (by decide)]
            show some (gI τ 2 2, _) = _
            rw [m1c]
            rfl
        · refine ⟨-6, _, _, ?_, ?_, Rel_ref 5 (by omega) hRel⟩
          · rw [fX5_set, ifn h1a, ifp h1c, fX3_least, ifp (by decide), ob, ifp h2, fX3_greatest, ifn (by decide), ob, ifn h3, x_ref6]; rfl
          · rw [fX6_set, m_isIn, ob, ifn h1, ifn (by decide), ifp (by decide), fX6_set_24, ifn (by decide), fX6_set_36, m_within, ob, ifn (nle h2), ifp (lt_of h3), fX6_set_39, ifn (by decide), m_ref6]; rfl
      · refine ⟨-4, _, _, ?_, ?_, Rel_ref 3 (by omega) hRel⟩
        · rw [fX5_set, ifn h1a, ifp h1c, fX3_least, ifp (by decide), ob, ifn h2, x_ref4]; rfl
        · rw [fX6_set, m_isIn, ob, ifn h1, ifn (by decide), ifp (by decide), fX6_set_24, ifn (by decide), fX6_set_36, m_within, ob, ifp (lt_of h2), fX6_set_39, ifn (by decide), m_ref4]; rfl
/-! stops -/
theorem G4 : lawG_4 Rel := by
  intro a0 a1 a2 σ τ hR
  have hRel := hR
  obtain ⟨s, g, im, tx, tn, rn, rb, rf, hV, hX, hT, hM⟩ := hR
  obtain ⟨u0, u1, u2, u3, u4, u5, u6, u7, u8, u9⟩ := hV.1
  obtain ⟨x1a, x1b, x1c, x1d, x1e, x1f, x1g⟩ := hX.1
  obtain ⟨m1a, m1b, m1c, m1d, m1e, m1f, m1g⟩ := hM.1
  have r4 : fX5_stops_12 σ = some (-4, pI σ 12 3 (gI σ 12 3 + 1)) := by rw [fX5_stops_12, x_ref4]; rfl
  have r6 : fX5_stops_37 σ = some (-6, pI σ 12 5 (gI σ 12 5 + 1)) := by rw [fX5_stops_37, x_ref6]; rfl
  have r3 : fX5_stops_65 σ = some (-3, pI σ 12 2 (gI σ 12 2 + 1)) := by rw [fX5_stops_65, x_ref3]; rfl
  have q4 : fX6_stops_12 a0 a1 a2 τ = some (-4, pI τ 1 4 (gI τ 1 4 + 1)) := by rw [fX6_stops_12, fX6_stops_63, ifn (by decide), m_ref4]; rfl
  have q6 : fX6_stops_35 a0 a1 a2 τ = some (-6, pI τ 1 6 (gI τ 1 6 + 1)) := by rw [fX6_stops_35, fX6_stops_63, ifn (by decide), m_ref6]; rfl
  have q3 : fX6_stops_57 a0 a1 a2 τ = some (-3, pI τ 1 3 (gI τ 1 3 + 1)) := by rw [fX6_stops_57, fX6_stops_63, ifn (by decide), m_ref3]; rfl
  by_cases h0 : a0 < 0
  · exact ⟨-4, _, _, by rw [fX5_stops, ifp h0, r4], by rw [fX6_stops, ifp h0, q4], Rel_ref 3 (by omega) hRel⟩
  by_cases h1 : a1 < 0
  · exact ⟨-4, _, _, by rw [fX5_stops, ifn h0, ifp h1, r4], by rw [fX6_stops, ifn h0, ifp h1, q4], Rel_ref 3 (by omega) hRel⟩
  by_cases h2n : ¬ 0 ≤ a2
  · have h2 := h2n
    exact ⟨-4, _, _, by rw [fX5_stops, ifn h0, ifn h1, ifn h2, r4], by rw [fX6_stops, ifn h0, ifn h1, ifn h2, q4], Rel_ref 3 (by omega) hRel⟩
  have h2 : 0 ≤ a2 := Classical.byContradiction h2n
  by_cases h3 : (10 : Int32) < a0
  · exact ⟨-6, _, _, by rw [fX5_stops, ifn h0, ifn h1, ifp h2, ifp h3, r6], by rw [fX6_stops, ifn h0, ifn h1, ifp h2, ifp h3, q6], Rel_ref 5 (by omega) hRel⟩
  by_cases h4 : (10 : Int32) < a1
  · exact ⟨-6, _, _, by rw [fX5_stops, ifn h0, ifn h1, ifp h2, ifn h3, ifp h4, r6], by rw [fX6_stops, ifn h0, ifn h1, ifp h2, ifn h3, ifp h4, q6], Rel_ref 5 (by omega) hRel⟩
  by_cases h5n : ¬ a2 ≤ (10 : Int32)
  · have h5 := h5n
    exact ⟨-6, _, _, by rw [fX5_stops, ifn h0, ifn h1, ifp h2, ifn h3, ifn h4, ifn h5, r6], by rw [fX6_stops, ifn h0, ifn h1, ifp h2, ifn h3, ifn h4, ifn h5, q6], Rel_ref 5 (by omega) hRel⟩
  have h5 : a2 ≤ (10 : Int32) := Classical.byContradiction h5n
  by_cases h6 : a0 < a2
  · exact ⟨-3, _, _, by rw [fX5_stops, ifn h0, ifn h1, ifp h2, ifn h3, ifn h4, ifp h5, ifp h6, r3], by rw [fX6_stops, ifn h0, ifn h1, ifp h2, ifn h3, ifn h4, ifp h5, ifp h6, q3], Rel_ref 2 (by omega) hRel⟩
  have e1 : fX5_stops a0 a1 a2 σ = if a0 = 0 then (if a1 = 0 then fX5_stops_65 σ else fX5_stops_57 a0 a1 a2 σ) else fX5_stops_57 a0 a1 a2 σ := by rw [fX5_stops, ifn h0, ifn h1, ifp h2, ifn h3, ifn h4, ifp h5, ifn h6]
  have e2 : fX6_stops a0 a1 a2 τ = if a1 = 0 then (if a0 = 0 then fX6_stops_57 a0 a1 a2 τ else (if a2 = 0 then fX6_stops_57 a0 a1 a2 τ else fX6_stops_62 a0 a1 a2 τ)) else fX6_stops_62 a0 a1 a2 τ := by rw [fX6_stops, ifn h0, ifn h1, ifp h2, ifn h3, ifn h4, ifp h5, ifn h6]
  have ok : ∃ (r : Int32), fX5_stops_72 a0 a1 a2 σ = some (r, σ) ∧ fX6_stops_62 a0 a1 a2 τ = some (r, τ) := by
    obtain ⟨o, ho, e3⟩ := nI_le_of (M := 10) (x := a0) 10 rfl h0 (le_of h3)
    obtain ⟨z, hz, e4⟩ := nI_le_of (M := 10) (x := a1) 10 rfl h1 (le_of h4)
    obtain ⟨r, hr, e5⟩ := nI_le_of (M := 10) (x := a2) 10 rfl (nle h2) h5
    refine ⟨bI (stp (s 3) (s 4) o z r), ?_, ?_⟩
    · rw [fX5_stops_72, x1d, x1e, e3, e4, e5, x_stops u5 (by omega) (by omega) (by omega) (by omega), ob]
      cases stp (s 3) (s 4) o z r <;> rfl
    · rw [fX6_stops_62, fX6_stops_63, ifp rfl, ifp (by decide), ifp (by decide), show (3 : Int32).toNatClampNeg = 3 from rfl, show (4 : Int32).toNatClampNeg = 4 from rfl, m1d, m1e, e3, e4, e5, m_stops u5 (by omega) (by omega) (by omega) (by omega), ob]
      cases stp (s 3) (s 4) o z r <;> rfl
  obtain ⟨r, k1, k2⟩ := ok
  by_cases h7 : a1 = 0
  · by_cases h8 : a0 = 0
    · exact ⟨-3, _, _, by rw [e1, ifp h8, ifp h7, r3], by rw [e2, ifp h7, ifp h8, q3], Rel_ref 2 (by omega) hRel⟩
    · by_cases h9 : a2 = 0
      · exact ⟨-3, _, _, by rw [e1, ifn h8, fX5_stops_57, ifp h9, ifp h7, r3], by rw [e2, ifp h7, ifn h8, ifp h9, q3], Rel_ref 2 (by omega) hRel⟩
      · exact ⟨r, _, _, by rw [e1, ifn h8, fX5_stops_57, ifn h9, k1], by rw [e2, ifp h7, ifn h8, ifn h9, k2], hRel⟩
  · have e6 : fX5_stops_57 a0 a1 a2 σ = some (r, σ) := by
      rw [fX5_stops_57]
      by_cases h9 : a2 = 0
      · rw [ifp h9, ifn h7, k1]
      · rw [ifn h9, k1]
    refine ⟨r, _, _, ?_, by rw [e2, ifn h7, k2], hRel⟩
    rw [e1]
    by_cases h8 : a0 = 0
    · rw [ifp h8, ifn h7, e6]
    · rw [ifn h8, e6]
/-! row -/
theorem G13 : lawG_13 Rel := by
  intro a0 σ τ hR
  have hRel := hR
  obtain ⟨s, g, im, tx, tn, rn, rb, rf, hV, hX, hT, hM⟩ := hR
  obtain ⟨v1, v2, v3, v4, v5, v6⟩ := hV
  obtain ⟨x1, x2, x3, x4, x5, x6, x7, x8⟩ := hX
  obtain ⟨m1, m2, m3, m4, m5, m6, m7, m8⟩ := hM
  have hb10 : 2 ^ rn ≤ 2 ^ 10 := Nat.pow_le_pow_right (by omega) v5
  by_cases h1 : a0 < 0 ∨ (1 : Int32) < a0
  · refine ⟨-2, _, _, ?_, ?_, Rel_ref 1 (by omega) hRel⟩
    · rw [fX5_row, x_noSort, ob, ifp h1, ifn (by decide), x_ref2]; rfl
    · have h2 : a0 < 0 ∨ (2 : Int32) ≤ a0 := by
        rcases h1 with h | h
        · exact Or.inl h
        · right
          rw [fa_le]; rw [fa_lt] at h
          have e1 : (1 : Int32).toInt = 1 := rfl
          have e2 : (2 : Int32).toInt = 2 := rfl
          omega
      rw [fX6_row, m_isIn, ob, ifp h2, ifp rfl, fX6_row_28, ifn (by decide), m_ref2]; rfl
  · have h1a : ¬ a0 < 0 := fun q => h1 (Or.inl q)
    have h1b : a0 ≤ (1 : Int32) := le_of (fun q => h1 (Or.inr q))
    have h2 : ¬ (a0 < 0 ∨ (2 : Int32) ≤ a0) := by
      rintro (h | h)
      · exact h1a h
      · rw [fa_le] at h h1b
        have e1 : (1 : Int32).toInt = 1 := rfl
        have e2 : (2 : Int32).toInt = 2 := rfl
        omega
    obtain ⟨b, hb, rfl⟩ := nI_le_of (M := 1) (x := a0) 1 rfl h1a h1b
    by_cases h3 : rn < 10
    · have c1 : nI rn < (10 : Int32) := (nI_ltI (b := 10) (by omega) (by omega)).mpr h3
      have c2 : ¬ nI rn = (10 : Int32) := fun q => absurd ((nI_eq (b := 10) (by omega) (by omega)).mp q) (by omega)
      have p9 : 2 ^ rn ≤ 2 ^ 9 := Nat.pow_le_pow_right (by omega) (by omega)
      have pb : b * 2 ^ rn ≤ 2 ^ 9 := by
        calc b * 2 ^ rn ≤ 1 * 2 ^ rn := Nat.mul_le_mul_right _ hb
          _ ≤ 2 ^ 9 := by omega
      have e1 : nI b <<< (nI rn &&& 31) = nI (b * 2 ^ rn) := shl_n (by omega) (by omega)
      have e2 : ((1 : Int32) <<< (nI rn &&& 31)) - (1 : Int32) = nI (2 ^ rn - 1) := by
        have e3 : (1 : Int32) <<< (nI rn &&& 31) = nI (1 * 2 ^ rn) := shl_n (a := 1) (by omega) (by omega)
        rw [e3, Nat.one_mul, show (1 : Int32) = nI 1 from rfl, pk_sub (Nat.one_le_two_pow)]
      have hnew : rb + b * 2 ^ rn < 2 ^ (rn + 1) := by
        rw [Nat.pow_succ]
        have : b * 2 ^ rn ≤ 1 * 2 ^ rn := Nat.mul_le_mul_right _ hb
        omega
      refine ⟨nI (rn + 1), pI (pI σ 0 6 (nI (rb + b * 2 ^ rn))) 0 5 (nI (rn + 1)), pI (pI τ 0 27 (nI (rb + b * 2 ^ rn))) 0 26 (nI (rn + 1)), ?_, ?_, ?_⟩
      · rw [fX5_row, x_noSort, ob, ifn h1, ifp rfl, x6, ifp c1, x7, e1, or_bit b v6]
        simp only [gI_pI]
        simp [x6, nI_1]
      · rw [fX6_row, m_isIn, ob, ifn h2, ifn (by decide), m6, ifn c2, fX6_row_28, ifp rfl, m6, e1, e2, m7, or_bit b v6]
        simp only [gI_pI]
        simp [m6, nI_1]
      · refine Rel_of (s := s) (g := g) (im := im) (tx := tx) (tn := tn) (rn := rn + 1) (rb := rb + b * 2 ^ rn) (rf := rf) ⟨v1, v2, v3, v4, by omega, hnew⟩ ?_ (RT_pI (by omega) (RT_pI (by omega) hT)) ?_
        · unfold RX TO
          unfold TO at x1 x3
          simp only [gI_pI]
          refine ⟨by simpa using x1, by simpa using x2, by simpa using x3, by simpa using x4, by simpa using x5, by simp, by simp, by simpa using x8⟩
        · unfold RM MO
          unfold MO at m1 m3
          simp only [gI_pI]
          refine ⟨by simpa using m1, by simpa using m2, by simpa using m3, by simpa using m4, by simpa using m5, by simp, ?_, by simpa using m8⟩
          rw [ifn (by decide), ifp (by decide), fa_mask, Nat.mod_eq_of_lt hnew]
    · have e3 : rn = 10 := by omega
      subst e3
      refine ⟨-6, _, _, ?_, ?_, Rel_ref 5 (by omega) hRel⟩
      · rw [fX5_row, x_noSort, ob, ifn h1, ifp rfl, x6, ifn (by decide), x_ref6]; rfl
      · rw [fX6_row, m_isIn, ob, ifn h2, ifn (by decide), m6, ifp (show nI 10 = 10 from rfl), fX6_row_28, ifn (by decide), m_ref6]; rfl
end
