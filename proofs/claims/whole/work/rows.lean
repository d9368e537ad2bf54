section
-- ===== PART A: goes FIRST, ahead of the names: the tables' words, and 'selects' of the private methods out of them =====
/-- a private method of a class that the tables say can be made, by its rows of tables_1 -/
def lw_okq (q : MethodName × Nat) : Prop := (q.1.cls ≠ "java/lang/invoke/MethodHandle" ∧ q.1.cls ≠ "java/lang/invoke/VarHandle") ∧ Cond.instantiable q.1.cls q.2 ∈ tables_1 ∧ Cond.privateMethod q.1 ∈ tables_1 ∧ Cond.instanceMethod q.1 ∈ tables_1
theorem lw_p0 : lw_okq (⟨"TellingRows$Item", "readsNumbers", "(LTellingRows$Sequence;I)Z"⟩, 3) := ⟨⟨by decide +kernel, by decide +kernel⟩, List.mem_of_getElem? (i := 68) (by decide +kernel), List.mem_of_getElem? (i := 234) (by decide +kernel), List.mem_of_getElem? (i := 235) (by decide +kernel)⟩
theorem lw_p1 : lw_okq (⟨"TellingRows", "registerOf", "(I)LTellingRows$Row;"⟩, 10) := ⟨⟨by decide +kernel, by decide +kernel⟩, List.mem_of_getElem? (i := 17) (by decide +kernel), List.mem_of_getElem? (i := 273) (by decide +kernel), List.mem_of_getElem? (i := 274) (by decide +kernel)⟩
theorem lw_p2 : lw_okq (⟨"TellingRows", "madeRow", "(I)LTellingRows$Row;"⟩, 10) := ⟨⟨by decide +kernel, by decide +kernel⟩, List.mem_of_getElem? (i := 17) (by decide +kernel), List.mem_of_getElem? (i := 297) (by decide +kernel), List.mem_of_getElem? (i := 298) (by decide +kernel)⟩
theorem lw_p3 : lw_okq (⟨"TellingRows$Maker", "due", "(LTellingRows$Sort;[II)I"⟩, 2) := ⟨⟨by decide +kernel, by decide +kernel⟩, List.mem_of_getElem? (i := 39) (by decide +kernel), List.mem_of_getElem? (i := 313) (by decide +kernel), List.mem_of_getElem? (i := 314) (by decide +kernel)⟩
theorem lw_p4 : lw_okq (⟨"TellingRows$Maker", "reach", "([II)I"⟩, 2) := ⟨⟨by decide +kernel, by decide +kernel⟩, List.mem_of_getElem? (i := 39) (by decide +kernel), List.mem_of_getElem? (i := 325) (by decide +kernel), List.mem_of_getElem? (i := 326) (by decide +kernel)⟩
theorem lw_p5 : lw_okq (⟨"TellingRows$Maker", "fold", "([II)I"⟩, 2) := ⟨⟨by decide +kernel, by decide +kernel⟩, List.mem_of_getElem? (i := 39) (by decide +kernel), List.mem_of_getElem? (i := 329) (by decide +kernel), List.mem_of_getElem? (i := 330) (by decide +kernel)⟩
theorem lw_p6 : lw_okq (⟨"TellingRows$Maker", "back", "(II)I"⟩, 2) := ⟨⟨by decide +kernel, by decide +kernel⟩, List.mem_of_getElem? (i := 39) (by decide +kernel), List.mem_of_getElem? (i := 333) (by decide +kernel), List.mem_of_getElem? (i := 334) (by decide +kernel)⟩
theorem lw_p7 : lw_okq (⟨"TellingRows$Maker", "again", "([II)I"⟩, 2) := ⟨⟨by decide +kernel, by decide +kernel⟩, List.mem_of_getElem? (i := 39) (by decide +kernel), List.mem_of_getElem? (i := 345) (by decide +kernel), List.mem_of_getElem? (i := 346) (by decide +kernel)⟩
theorem lw_p8 : lw_okq (⟨"TellingRows$Maker", "sum", "([II)I"⟩, 2) := ⟨⟨by decide +kernel, by decide +kernel⟩, List.mem_of_getElem? (i := 39) (by decide +kernel), List.mem_of_getElem? (i := 350) (by decide +kernel), List.mem_of_getElem? (i := 351) (by decide +kernel)⟩
theorem lw_p9 : lw_okq (⟨"TellingRows$Maker", "soFar", "(I)I"⟩, 2) := ⟨⟨by decide +kernel, by decide +kernel⟩, List.mem_of_getElem? (i := 39) (by decide +kernel), List.mem_of_getElem? (i := 359) (by decide +kernel), List.mem_of_getElem? (i := 360) (by decide +kernel)⟩
theorem lw_p10 : lw_okq (⟨"TellingRows$Maker", "free", "([II)I"⟩, 2) := ⟨⟨by decide +kernel, by decide +kernel⟩, List.mem_of_getElem? (i := 39) (by decide +kernel), List.mem_of_getElem? (i := 363) (by decide +kernel), List.mem_of_getElem? (i := 364) (by decide +kernel)⟩
theorem lw_p11 : lw_okq (⟨"TellingRows$TellerSearch", "tells", "(I)Z"⟩, 4) := ⟨⟨by decide +kernel, by decide +kernel⟩, List.mem_of_getElem? (i := 121) (by decide +kernel), List.mem_of_getElem? (i := 545) (by decide +kernel), List.mem_of_getElem? (i := 546) (by decide +kernel)⟩
theorem lw_p12 : lw_okq (⟨"TellingRows$TellerSearch", "keep", "(I)V"⟩, 4) := ⟨⟨by decide +kernel, by decide +kernel⟩, List.mem_of_getElem? (i := 121) (by decide +kernel), List.mem_of_getElem? (i := 549) (by decide +kernel), List.mem_of_getElem? (i := 550) (by decide +kernel)⟩
theorem lw_p13 : lw_okq (⟨"TellingRowsModel", "isItem", "()Z"⟩, 21) := ⟨⟨by decide +kernel, by decide +kernel⟩, List.mem_of_getElem? (i := 562) (by decide +kernel), List.mem_of_getElem? (i := 651) (by decide +kernel), List.mem_of_getElem? (i := 652) (by decide +kernel)⟩
theorem lw_p14 : lw_okq (⟨"TellingRowsModel", "is", "(I)Z"⟩, 21) := ⟨⟨by decide +kernel, by decide +kernel⟩, List.mem_of_getElem? (i := 562) (by decide +kernel), List.mem_of_getElem? (i := 655) (by decide +kernel), List.mem_of_getElem? (i := 656) (by decide +kernel)⟩
theorem lw_p15 : lw_okq (⟨"TellingRowsModel", "oneOrTwo", "()I"⟩, 21) := ⟨⟨by decide +kernel, by decide +kernel⟩, List.mem_of_getElem? (i := 562) (by decide +kernel), List.mem_of_getElem? (i := 659) (by decide +kernel), List.mem_of_getElem? (i := 660) (by decide +kernel)⟩
def lw_privs_1 : List (MethodName × Nat) := [(⟨"TellingRows$Item", "readsNumbers", "(LTellingRows$Sequence;I)Z"⟩, 3), (⟨"TellingRows", "registerOf", "(I)LTellingRows$Row;"⟩, 10), (⟨"TellingRows", "madeRow", "(I)LTellingRows$Row;"⟩, 10), (⟨"TellingRows$Maker", "due", "(LTellingRows$Sort;[II)I"⟩, 2), (⟨"TellingRows$Maker", "reach", "([II)I"⟩, 2), (⟨"TellingRows$Maker", "fold", "([II)I"⟩, 2), (⟨"TellingRows$Maker", "back", "(II)I"⟩, 2), (⟨"TellingRows$Maker", "again", "([II)I"⟩, 2), (⟨"TellingRows$Maker", "sum", "([II)I"⟩, 2), (⟨"TellingRows$Maker", "soFar", "(I)I"⟩, 2), (⟨"TellingRows$Maker", "free", "([II)I"⟩, 2), (⟨"TellingRows$TellerSearch", "tells", "(I)Z"⟩, 4), (⟨"TellingRows$TellerSearch", "keep", "(I)V"⟩, 4), (⟨"TellingRowsModel", "isItem", "()Z"⟩, 21), (⟨"TellingRowsModel", "is", "(I)Z"⟩, 21), (⟨"TellingRowsModel", "oneOrTwo", "()I"⟩, 21)]
theorem lw_r1 : ∀ q ∈ lw_privs_1, lw_okq q := List.forall_mem_cons.mpr ⟨lw_p0, List.forall_mem_cons.mpr ⟨lw_p1, List.forall_mem_cons.mpr ⟨lw_p2, List.forall_mem_cons.mpr ⟨lw_p3, List.forall_mem_cons.mpr ⟨lw_p4, List.forall_mem_cons.mpr ⟨lw_p5, List.forall_mem_cons.mpr ⟨lw_p6, List.forall_mem_cons.mpr ⟨lw_p7, List.forall_mem_cons.mpr ⟨lw_p8, List.forall_mem_cons.mpr ⟨lw_p9, List.forall_mem_cons.mpr ⟨lw_p10, List.forall_mem_cons.mpr ⟨lw_p11, List.forall_mem_cons.mpr ⟨lw_p12, List.forall_mem_cons.mpr ⟨lw_p13, List.forall_mem_cons.mpr ⟨lw_p14, List.forall_mem_cons.mpr ⟨lw_p15, fun _ h => absurd h List.not_mem_nil⟩⟩⟩⟩⟩⟩⟩⟩⟩⟩⟩⟩⟩⟩⟩⟩
theorem lw_p16 : lw_okq (⟨"TellingRowsModel", "lays", "(I)V"⟩, 21) := ⟨⟨by decide +kernel, by decide +kernel⟩, List.mem_of_getElem? (i := 562) (by decide +kernel), List.mem_of_getElem? (i := 686) (by decide +kernel), List.mem_of_getElem? (i := 687) (by decide +kernel)⟩
theorem lw_p17 : lw_okq (⟨"TellingRowsModel", "comes", "(II)V"⟩, 21) := ⟨⟨by decide +kernel, by decide +kernel⟩, List.mem_of_getElem? (i := 562) (by decide +kernel), List.mem_of_getElem? (i := 691) (by decide +kernel), List.mem_of_getElem? (i := 692) (by decide +kernel)⟩
theorem lw_p18 : lw_okq (⟨"TellingRowsModel", "next", "(I)I"⟩, 21) := ⟨⟨by decide +kernel, by decide +kernel⟩, List.mem_of_getElem? (i := 562) (by decide +kernel), List.mem_of_getElem? (i := 695) (by decide +kernel), List.mem_of_getElem? (i := 696) (by decide +kernel)⟩
theorem lw_p19 : lw_okq (⟨"TellingRowsModel", "sum", "(II)I"⟩, 21) := ⟨⟨by decide +kernel, by decide +kernel⟩, List.mem_of_getElem? (i := 562) (by decide +kernel), List.mem_of_getElem? (i := 699) (by decide +kernel), List.mem_of_getElem? (i := 700) (by decide +kernel)⟩
theorem lw_p20 : lw_okq (⟨"TellingRowsModel", "again", "(I)I"⟩, 21) := ⟨⟨by decide +kernel, by decide +kernel⟩, List.mem_of_getElem? (i := 562) (by decide +kernel), List.mem_of_getElem? (i := 703) (by decide +kernel), List.mem_of_getElem? (i := 704) (by decide +kernel)⟩
theorem lw_p21 : lw_okq (⟨"TellingRowsModel", "free", "(I)I"⟩, 21) := ⟨⟨by decide +kernel, by decide +kernel⟩, List.mem_of_getElem? (i := 562) (by decide +kernel), List.mem_of_getElem? (i := 707) (by decide +kernel), List.mem_of_getElem? (i := 708) (by decide +kernel)⟩
theorem lw_p22 : lw_okq (⟨"TellingRowsModel", "breaksAt", "(I)I"⟩, 21) := ⟨⟨by decide +kernel, by decide +kernel⟩, List.mem_of_getElem? (i := 562) (by decide +kernel), List.mem_of_getElem? (i := 745) (by decide +kernel), List.mem_of_getElem? (i := 746) (by decide +kernel)⟩
theorem lw_p23 : lw_okq (⟨"TellingRowsModel", "begins", "()V"⟩, 21) := ⟨⟨by decide +kernel, by decide +kernel⟩, List.mem_of_getElem? (i := 562) (by decide +kernel), List.mem_of_getElem? (i := 767) (by decide +kernel), List.mem_of_getElem? (i := 768) (by decide +kernel)⟩
theorem lw_p24 : lw_okq (⟨"TellingRowsModel", "tells", "(Z)Z"⟩, 21) := ⟨⟨by decide +kernel, by decide +kernel⟩, List.mem_of_getElem? (i := 562) (by decide +kernel), List.mem_of_getElem? (i := 771) (by decide +kernel), List.mem_of_getElem? (i := 772) (by decide +kernel)⟩
theorem lw_p25 : lw_okq (⟨"TellingRowsModel", "untells", "()Z"⟩, 21) := ⟨⟨by decide +kernel, by decide +kernel⟩, List.mem_of_getElem? (i := 562) (by decide +kernel), List.mem_of_getElem? (i := 779) (by decide +kernel), List.mem_of_getElem? (i := 780) (by decide +kernel)⟩
theorem lw_p26 : lw_okq (⟨"TellingRowsModel", "areLike", "(II)Z"⟩, 21) := ⟨⟨by decide +kernel, by decide +kernel⟩, List.mem_of_getElem? (i := 562) (by decide +kernel), List.mem_of_getElem? (i := 791) (by decide +kernel), List.mem_of_getElem? (i := 792) (by decide +kernel)⟩
theorem lw_p27 : lw_okq (⟨"TellingRowsModel", "isTeller", "(I)Z"⟩, 21) := ⟨⟨by decide +kernel, by decide +kernel⟩, List.mem_of_getElem? (i := 562) (by decide +kernel), List.mem_of_getElem? (i := 801) (by decide +kernel), List.mem_of_getElem? (i := 802) (by decide +kernel)⟩
theorem lw_p28 : lw_okq (⟨"TellingRowsModel", "code", "(I)J"⟩, 21) := ⟨⟨by decide +kernel, by decide +kernel⟩, List.mem_of_getElem? (i := 562) (by decide +kernel), List.mem_of_getElem? (i := 805) (by decide +kernel), List.mem_of_getElem? (i := 806) (by decide +kernel)⟩
def lw_privs_2 : List (MethodName × Nat) := [(⟨"TellingRowsModel", "lays", "(I)V"⟩, 21), (⟨"TellingRowsModel", "comes", "(II)V"⟩, 21), (⟨"TellingRowsModel", "next", "(I)I"⟩, 21), (⟨"TellingRowsModel", "sum", "(II)I"⟩, 21), (⟨"TellingRowsModel", "again", "(I)I"⟩, 21), (⟨"TellingRowsModel", "free", "(I)I"⟩, 21), (⟨"TellingRowsModel", "breaksAt", "(I)I"⟩, 21), (⟨"TellingRowsModel", "begins", "()V"⟩, 21), (⟨"TellingRowsModel", "tells", "(Z)Z"⟩, 21), (⟨"TellingRowsModel", "untells", "()Z"⟩, 21), (⟨"TellingRowsModel", "areLike", "(II)Z"⟩, 21), (⟨"TellingRowsModel", "isTeller", "(I)Z"⟩, 21), (⟨"TellingRowsModel", "code", "(I)J"⟩, 21)]
theorem lw_r2 : ∀ q ∈ lw_privs_2, lw_okq q := List.forall_mem_cons.mpr ⟨lw_p16, List.forall_mem_cons.mpr ⟨lw_p17, List.forall_mem_cons.mpr ⟨lw_p18, List.forall_mem_cons.mpr ⟨lw_p19, List.forall_mem_cons.mpr ⟨lw_p20, List.forall_mem_cons.mpr ⟨lw_p21, List.forall_mem_cons.mpr ⟨lw_p22, List.forall_mem_cons.mpr ⟨lw_p23, List.forall_mem_cons.mpr ⟨lw_p24, List.forall_mem_cons.mpr ⟨lw_p25, List.forall_mem_cons.mpr ⟨lw_p26, List.forall_mem_cons.mpr ⟨lw_p27, List.forall_mem_cons.mpr ⟨lw_p28, fun _ h => absurd h List.not_mem_nil⟩⟩⟩⟩⟩⟩⟩⟩⟩⟩⟩⟩⟩
def lw_privs : List (MethodName × Nat) := lw_privs_1 ++ (lw_privs_2)
def lw_tbl : List Cond := k2_sels lw_privs ++ tables_1
theorem lw_privs_ok : ∀ q ∈ lw_privs, lw_okq q := by
  show ∀ q ∈ lw_privs_1 ++ (lw_privs_2), lw_okq q
  exact List.forall_mem_append.mpr ⟨lw_r1, lw_r2⟩
-- ===== end of PART A; then your names; then what follows =====
end
section
/-! ===== BEGIN words of one list among another's, by their places ===== -/
theorem goodIn_r {big : List Cond} (ws : List Cond) (ps : List Nat) (hp : ws = ps.filterMap (fun i => big[i]?)) (h : ws.all goodWord = true) : GoodIn big ws := by
  intro w hw
  have h1 := List.all_eq_true.mp h w hw
  rw [hp] at hw
  obtain ⟨i, -, hi⟩ := List.mem_filterMap.mp hw
  have hm : w ∈ big := by first | exact List.mem_of_getElem? hi | exact List.getElem?_mem hi
  exact ⟨hm, good_of_word h1⟩
theorem goodIn_app {big a b : List Cond} (ha : GoodIn big a) (hb : GoodIn big b) : GoodIn big (a ++ b) := fun w h => (List.mem_append.mp h).elim (ha w) (hb w)
theorem goodIn_ca {big a b : List Cond} {c : Cond} (ha : GoodIn big (c :: a)) (hb : GoodIn big b) : GoodIn big (c :: (a ++ b)) := fun w h => (List.mem_cons.mp h).elim (fun e => ha w (List.mem_cons.mpr (Or.inl e))) (fun h => (List.mem_append.mp h).elim (fun h => ha w (List.mem_cons.mpr (Or.inr h))) (hb w))
theorem goodIn_sub {big ws : List Cond} (hm : ∀ w ∈ ws, w ∈ big) (h : ws.all goodWord = true) : GoodIn big ws := fun w hw => ⟨hm w hw, good_of_word (List.all_eq_true.mp h w hw)⟩
/-! ===== END ===== -/

/-! ===== BEGIN printed: names, fields, word lists, decode rows ===== -/
def RX0 : String := "TellingRows$1"
def TX0 : u_T := fun k => match k with
  | _ => ("", "", "", false)
def tyX0 : Nat → FieldType := fun k => match k with
  | _ => .int
abbrev wsX00 : List Cond := u_ws RX0 TX0 0
theorem nmX0 : ∀ a, a < 0 → ∀ b, b < 0 → a ≠ b → (TX0 a).2.1 ≠ (TX0 b).2.1 := by decide +kernel
theorem tyX0_ok : ∀ k, k < 0 → parseFieldDescriptor (TX0 k).2.2.1 = some (tyX0 k) := by decide +kernel
def RX1 : String := "TellingRows$Item"
def TX1 : u_T := fun k => match k with
  | 0 => ("TellingRows$Item", "read", "LTellingRows$Sequence;", true)
  | 1 => ("TellingRows$Item", "beginnings", "LTellingRows$Sequence;", true)
  | _ => ("TellingRows$Item", "end", "I", false)
def tyX1 : Nat → FieldType := fun k => match k with
  | 0 => .object "TellingRows$Sequence"
  | 1 => .object "TellingRows$Sequence"
  | _ => .int
abbrev wsX10 : List Cond := u_ws RX1 TX1 3
theorem nmX1 : ∀ a, a < 3 → ∀ b, b < 3 → a ≠ b → (TX1 a).2.1 ≠ (TX1 b).2.1 := by decide +kernel
theorem tyX1_ok : ∀ k, k < 3 → parseFieldDescriptor (TX1 k).2.2.1 = some (tyX1 k) := by decide +kernel
abbrev cX1_init : ByteArray := prog_3_method_1_code
def yX1_init : MethodName := ⟨RX1, "<init>", "()V"⟩
abbrev cX1_end : ByteArray := prog_3_method_2_code
def yX1_end : MethodName := ⟨RX1, "end", "()I"⟩
abbrev cX1_register : ByteArray := prog_3_method_3_code
def yX1_register : MethodName := ⟨RX1, "register", "()I"⟩
abbrev cX1_sort : ByteArray := prog_3_method_4_code
def yX1_sort : MethodName := ⟨RX1, "sort", "()LTellingRows$Sort;"⟩
abbrev cX1_standsAt : ByteArray := prog_3_method_5_code
def yX1_standsAt : MethodName := ⟨RX1, "standsAt", "(LTellingRows$Sequence;I)Z"⟩
abbrev cX1_readsNumbers : ByteArray := prog_3_method_6_code
def yX1_readsNumbers : MethodName := ⟨RX1, "readsNumbers", "(LTellingRows$Sequence;I)Z"⟩
def RX2 : String := "TellingRows$Maker"
def TX2 : u_T := fun k => match k with
  | 0 => ("TellingRows$Maker", "marks", "LTellingRows$Marks;", true)
  | _ => ("TellingRows$Maker", "alike", "[I", true)
def tyX2 : Nat → FieldType := fun k => match k with
  | 0 => .object "TellingRows$Marks"
  | _ => .array .int
abbrev wsX20 : List Cond := u_ws RX2 TX2 2
theorem nmX2 : ∀ a, a < 2 → ∀ b, b < 2 → a ≠ b → (TX2 a).2.1 ≠ (TX2 b).2.1 := by decide +kernel
theorem tyX2_ok : ∀ k, k < 2 → parseFieldDescriptor (TX2 k).2.2.1 = some (tyX2 k) := by decide +kernel
abbrev cX2_init : ByteArray := prog_4_method_1_code
def yX2_init : MethodName := ⟨RX2, "<init>", "(LTellingRows$Marks;)V"⟩
abbrev cX2_make : ByteArray := prog_4_method_2_code
def yX2_make : MethodName := ⟨RX2, "make", "(LTellingRows$Row;)V"⟩
abbrev cX2_due : ByteArray := prog_4_method_3_code
def yX2_due : MethodName := ⟨RX2, "due", "(LTellingRows$Sort;[II)I"⟩
abbrev cX2_reach : ByteArray := prog_4_method_4_code
def yX2_reach : MethodName := ⟨RX2, "reach", "([II)I"⟩
abbrev cX2_fold : ByteArray := prog_4_method_5_code
def yX2_fold : MethodName := ⟨RX2, "fold", "([II)I"⟩
abbrev cX2_back : ByteArray := prog_4_method_6_code
def yX2_back : MethodName := ⟨RX2, "back", "(II)I"⟩
abbrev cX2_again : ByteArray := prog_4_method_7_code
def yX2_again : MethodName := ⟨RX2, "again", "([II)I"⟩
abbrev cX2_sum : ByteArray := prog_4_method_8_code
def yX2_sum : MethodName := ⟨RX2, "sum", "([II)I"⟩
abbrev cX2_soFar : ByteArray := prog_4_method_9_code
def yX2_soFar : MethodName := ⟨RX2, "soFar", "(I)I"⟩
abbrev cX2_free : ByteArray := prog_4_method_10_code
def yX2_free : MethodName := ⟨RX2, "free", "([II)I"⟩
def RX3 : String := "TellingRows$Marks"
def TX3 : u_T := fun k => match k with
  | _ => ("TellingRows$Marks", "marks", "[I", true)
def tyX3 : Nat → FieldType := fun k => match k with
  | _ => .array .int
abbrev wsX30 : List Cond := u_ws RX3 TX3 1
theorem nmX3 : ∀ a, a < 1 → ∀ b, b < 1 → a ≠ b → (TX3 a).2.1 ≠ (TX3 b).2.1 := by decide +kernel
theorem tyX3_ok : ∀ k, k < 1 → parseFieldDescriptor (TX3 k).2.2.1 = some (tyX3 k) := by decide +kernel
abbrev cX3_init : ByteArray := prog_5_method_1_code
def yX3_init : MethodName := ⟨RX3, "<init>", "()V"⟩
abbrev cX3_clear : ByteArray := prog_5_method_2_code
def yX3_clear : MethodName := ⟨RX3, "clear", "()V"⟩
abbrev cX3_of : ByteArray := prog_5_method_3_code
def yX3_of : MethodName := ⟨RX3, "of", "(I)I"⟩
abbrev cX3_put : ByteArray := prog_5_method_4_code
def yX3_put : MethodName := ⟨RX3, "put", "(II)V"⟩
abbrev cX3_raise : ByteArray := prog_5_method_5_code
def yX3_raise : MethodName := ⟨RX3, "raise", "(I)V"⟩
def RX4 : String := "TellingRows$Rounds"
def TX4 : u_T := fun k => match k with
  | 0 => ("TellingRows$Rounds", "steps", "[LTellingRows$Sequence;", true)
  | 1 => ("TellingRows$Rounds", "tail", "I", false)
  | _ => ("TellingRows$Rounds", "length", "I", false)
def tyX4 : Nat → FieldType := fun k => match k with
  | 0 => .array (.object "TellingRows$Sequence")
  | 1 => .int
  | _ => .int
abbrev wsX40 : List Cond := u_ws RX4 TX4 3
theorem nmX4 : ∀ a, a < 3 → ∀ b, b < 3 → a ≠ b → (TX4 a).2.1 ≠ (TX4 b).2.1 := by decide +kernel
theorem tyX4_ok : ∀ k, k < 3 → parseFieldDescriptor (TX4 k).2.2.1 = some (tyX4 k) := by decide +kernel
abbrev cX4_init : ByteArray := prog_6_method_1_code
def yX4_init : MethodName := ⟨RX4, "<init>", "()V"⟩
abbrev cX4_tail : ByteArray := prog_6_method_2_code
def yX4_tail : MethodName := ⟨RX4, "tail", "()I"⟩
abbrev cX4_length : ByteArray := prog_6_method_3_code
def yX4_length : MethodName := ⟨RX4, "length", "()I"⟩
abbrev cX4_find : ByteArray := prog_6_method_4_code
def yX4_find : MethodName := ⟨RX4, "find", "(LTellingRows$Sequence;)Z"⟩
def RX5 : String := "TellingRows$Row"
def TX5 : u_T := fun k => match k with
  | 0 => ("TellingRows$Row", "beginnings", "LTellingRows$Sequence;", true)
  | 1 => ("TellingRows$Row", "numbers", "[I", true)
  | 2 => ("TellingRows$Row", "sort", "LTellingRows$Sort;", false)
  | 3 => ("TellingRows$Row", "made", "Z", false)
  | _ => ("TellingRows$Row", "length", "I", false)
def tyX5 : Nat → FieldType := fun k => match k with
  | 0 => .object "TellingRows$Sequence"
  | 1 => .array .int
  | 2 => .object "TellingRows$Sort"
  | 3 => .boolean
  | _ => .int
abbrev wsX50 : List Cond := u_ws RX5 TX5 5
theorem nmX5 : ∀ a, a < 5 → ∀ b, b < 5 → a ≠ b → (TX5 a).2.1 ≠ (TX5 b).2.1 := by decide +kernel
theorem tyX5_ok : ∀ k, k < 5 → parseFieldDescriptor (TX5 k).2.2.1 = some (tyX5 k) := by decide +kernel
abbrev cX5_init : ByteArray := prog_7_method_1_code
def yX5_init : MethodName := ⟨RX5, "<init>", "()V"⟩
abbrev cX5_become : ByteArray := prog_7_method_2_code
def yX5_become : MethodName := ⟨RX5, "become", "(LTellingRows$Item;)V"⟩
abbrev cX5_numberAt : ByteArray := prog_7_method_3_code
def yX5_numberAt : MethodName := ⟨RX5, "numberAt", "(I)I"⟩
abbrev cX5_placeOf : ByteArray := prog_7_method_4_code
def yX5_placeOf : MethodName := ⟨RX5, "placeOf", "(I)I"⟩
abbrev cX5_countOf : ByteArray := prog_7_method_5_code
def yX5_countOf : MethodName := ⟨RX5, "countOf", "(II)I"⟩
abbrev cX5_runEnd : ByteArray := prog_7_method_6_code
def yX5_runEnd : MethodName := ⟨RX5, "runEnd", "(II)I"⟩
abbrev cX5_runStart : ByteArray := prog_7_method_7_code
def yX5_runStart : MethodName := ⟨RX5, "runStart", "(I)I"⟩
abbrev cX5_greatest : ByteArray := prog_7_method_8_code
def yX5_greatest : MethodName := ⟨RX5, "greatest", "(I)I"⟩
abbrev cX5_longestRun : ByteArray := prog_7_method_9_code
def yX5_longestRun : MethodName := ⟨RX5, "longestRun", "(I)I"⟩
abbrev cX5_unlike : ByteArray := prog_7_method_10_code
def yX5_unlike : MethodName := ⟨RX5, "unlike", "(ILTellingRows$Marks;)I"⟩
abbrev cX5_period : ByteArray := prog_7_method_11_code
def yX5_period : MethodName := ⟨RX5, "period", "()I"⟩
abbrev cX5_tail : ByteArray := prog_7_method_12_code
def yX5_tail : MethodName := ⟨RX5, "tail", "(I)I"⟩
def RX6 : String := "TellingRows$Sequence"
def TX6 : u_T := fun k => match k with
  | 0 => ("TellingRows$Sequence", "items", "[I", true)
  | _ => ("TellingRows$Sequence", "size", "I", false)
def tyX6 : Nat → FieldType := fun k => match k with
  | 0 => .array .int
  | _ => .int
abbrev wsX60 : List Cond := u_ws RX6 TX6 2
theorem nmX6 : ∀ a, a < 2 → ∀ b, b < 2 → a ≠ b → (TX6 a).2.1 ≠ (TX6 b).2.1 := by decide +kernel
theorem tyX6_ok : ∀ k, k < 2 → parseFieldDescriptor (TX6 k).2.2.1 = some (tyX6 k) := by decide +kernel
abbrev cX6_init : ByteArray := prog_8_method_1_code
def yX6_init : MethodName := ⟨RX6, "<init>", "(I)V"⟩
abbrev cX6_size : ByteArray := prog_8_method_2_code
def yX6_size : MethodName := ⟨RX6, "size", "()I"⟩
abbrev cX6_get : ByteArray := prog_8_method_3_code
def yX6_get : MethodName := ⟨RX6, "get", "(I)I"⟩
abbrev cX6_add : ByteArray := prog_8_method_4_code
def yX6_add : MethodName := ⟨RX6, "add", "(I)Z"⟩
abbrev cX6_clear : ByteArray := prog_8_method_5_code
def yX6_clear : MethodName := ⟨RX6, "clear", "()I"⟩
abbrev cX6_copy : ByteArray := prog_8_method_6_code
def yX6_copy : MethodName := ⟨RX6, "copy", "(LTellingRows$Sequence;)V"⟩
abbrev cX6_same : ByteArray := prog_8_method_7_code
def yX6_same : MethodName := ⟨RX6, "same", "(LTellingRows$Sequence;)Z"⟩
def RX7 : String := "TellingRows$Sort"
def TX7 : u_T := fun k => match k with
  | _ => ("", "", "", false)
def tyX7 : Nat → FieldType := fun k => match k with
  | _ => .int
abbrev wsX70 : List Cond := u_ws RX7 TX7 0
theorem nmX7 : ∀ a, a < 0 → ∀ b, b < 0 → a ≠ b → (TX7 a).2.1 ≠ (TX7 b).2.1 := by decide +kernel
theorem tyX7_ok : ∀ k, k < 0 → parseFieldDescriptor (TX7 k).2.2.1 = some (tyX7 k) := by decide +kernel
abbrev cX7_allows : ByteArray := prog_9_method_4_code
def yX7_allows : MethodName := ⟨RX7, "allows", "(LTellingRows$Sequence;)Z"⟩
def RX8 : String := "TellingRows$Speaker"
def TX8 : u_T := fun k => match k with
  | 0 => ("TellingRows$Speaker", "one", "LTellingRows$Sequence;", true)
  | _ => ("TellingRows$Speaker", "other", "LTellingRows$Sequence;", true)
def tyX8 : Nat → FieldType := fun k => match k with
  | 0 => .object "TellingRows$Sequence"
  | _ => .object "TellingRows$Sequence"
abbrev wsX80 : List Cond := u_ws RX8 TX8 2
theorem nmX8 : ∀ a, a < 2 → ∀ b, b < 2 → a ≠ b → (TX8 a).2.1 ≠ (TX8 b).2.1 := by decide +kernel
theorem tyX8_ok : ∀ k, k < 2 → parseFieldDescriptor (TX8 k).2.2.1 = some (tyX8 k) := by decide +kernel
abbrev cX8_init : ByteArray := prog_10_method_1_code
def yX8_init : MethodName := ⟨RX8, "<init>", "()V"⟩
abbrev cX8_speak : ByteArray := prog_10_method_2_code
def yX8_speak : MethodName := ⟨RX8, "speak", "(LTellingRows$Sequence;ZI)LTellingRows$Sequence;"⟩
abbrev cX8_takeBack : ByteArray := prog_10_method_3_code
def yX8_takeBack : MethodName := ⟨RX8, "takeBack", "(LTellingRows$Sequence;)LTellingRows$Sequence;"⟩
abbrev cX8_mostBacks : ByteArray := prog_10_method_4_code
def yX8_mostBacks : MethodName := ⟨RX8, "mostBacks", "(LTellingRows$Sequence;)I"⟩
abbrev cX8_say : ByteArray := prog_10_method_5_code
def yX8_say : MethodName := ⟨RX8, "say", "(LTellingRows$Sequence;LTellingRows$Sequence;)Z"⟩
abbrev cX8_tally : ByteArray := prog_10_method_6_code
def yX8_tally : MethodName := ⟨RX8, "tally", "(LTellingRows$Sequence;LTellingRows$Sequence;)Z"⟩
abbrev cX8_unsay : ByteArray := prog_10_method_7_code
def yX8_unsay : MethodName := ⟨RX8, "unsay", "(LTellingRows$Sequence;LTellingRows$Sequence;)Z"⟩
def RX9 : String := "TellingRows$TellerSearch"
def TX9 : u_T := fun k => match k with
  | 0 => ("TellingRows$TellerSearch", "figures", "[I", true)
  | 1 => ("TellingRows$TellerSearch", "wanted", "I", false)
  | 2 => ("TellingRows$TellerSearch", "found", "I", false)
  | _ => ("TellingRows$TellerSearch", "answer", "J", false)
def tyX9 : Nat → FieldType := fun k => match k with
  | 0 => .array .int
  | 1 => .int
  | 2 => .int
  | _ => .long
abbrev wsX90 : List Cond := u_ws RX9 TX9 4
theorem nmX9 : ∀ a, a < 4 → ∀ b, b < 4 → a ≠ b → (TX9 a).2.1 ≠ (TX9 b).2.1 := by decide +kernel
theorem tyX9_ok : ∀ k, k < 4 → parseFieldDescriptor (TX9 k).2.2.1 = some (tyX9 k) := by decide +kernel
abbrev cX9_init : ByteArray := prog_11_method_1_code
def yX9_init : MethodName := ⟨RX9, "<init>", "()V"⟩
abbrev cX9_answer : ByteArray := prog_11_method_2_code
def yX9_answer : MethodName := ⟨RX9, "answer", "()J"⟩
abbrev cX9_search : ByteArray := prog_11_method_3_code
def yX9_search : MethodName := ⟨RX9, "search", "(II)I"⟩
abbrev cX9_fill : ByteArray := prog_11_method_4_code
def yX9_fill : MethodName := ⟨RX9, "fill", "(LTellingRows$TellerSearch;IIII)V"⟩
abbrev cX9_tells : ByteArray := prog_11_method_5_code
def yX9_tells : MethodName := ⟨RX9, "tells", "(I)Z"⟩
abbrev cX9_keep : ByteArray := prog_11_method_6_code
def yX9_keep : MethodName := ⟨RX9, "keep", "(I)V"⟩
def RX10 : String := "TellingRows"
def TX10 : u_T := fun k => match k with
  | 0 => ("TellingRows", "registers", "[LTellingRows$Row;", true)
  | 1 => ("TellingRows", "marks", "LTellingRows$Marks;", true)
  | 2 => ("TellingRows", "maker", "LTellingRows$Maker;", true)
  | 3 => ("TellingRows", "text", "LTellingRows$Sequence;", true)
  | 4 => ("TellingRows", "item", "LTellingRows$Item;", true)
  | 5 => ("TellingRows", "numbers", "LTellingRows$Sequence;", true)
  | 6 => ("TellingRows", "figures", "LTellingRows$Sequence;", true)
  | 7 => ("TellingRows", "speaker", "LTellingRows$Speaker;", true)
  | 8 => ("TellingRows", "rounds", "LTellingRows$Rounds;", true)
  | _ => ("TellingRows", "tellerSearch", "LTellingRows$TellerSearch;", true)
def tyX10 : Nat → FieldType := fun k => match k with
  | 0 => .array (.object "TellingRows$Row")
  | 1 => .object "TellingRows$Marks"
  | 2 => .object "TellingRows$Maker"
  | 3 => .object "TellingRows$Sequence"
  | 4 => .object "TellingRows$Item"
  | 5 => .object "TellingRows$Sequence"
  | 6 => .object "TellingRows$Sequence"
  | 7 => .object "TellingRows$Speaker"
  | 8 => .object "TellingRows$Rounds"
  | _ => .object "TellingRows$TellerSearch"
abbrev wsX100 : List Cond := u_ws RX10 TX10 10
theorem nmX10 : ∀ a, a < 10 → ∀ b, b < 10 → a ≠ b → (TX10 a).2.1 ≠ (TX10 b).2.1 := by decide +kernel
theorem tyX10_ok : ∀ k, k < 10 → parseFieldDescriptor (TX10 k).2.2.1 = some (tyX10 k) := by decide +kernel
abbrev cX10_init : ByteArray := prog_1_method_1_code
def yX10_init : MethodName := ⟨RX10, "<init>", "()V"⟩
abbrev cX10_write : ByteArray := prog_1_method_2_code
def yX10_write : MethodName := ⟨RX10, "write", "(IJ)I"⟩
abbrev cX10_wipe : ByteArray := prog_1_method_3_code
def yX10_wipe : MethodName := ⟨RX10, "wipe", "()I"⟩
abbrev cX10_fault : ByteArray := prog_1_method_4_code
def yX10_fault : MethodName := ⟨RX10, "fault", "()I"⟩
abbrev cX10_lay : ByteArray := prog_1_method_5_code
def yX10_lay : MethodName := ⟨RX10, "lay", "()I"⟩
abbrev cX10_told : ByteArray := prog_1_method_6_code
def yX10_told : MethodName := ⟨RX10, "told", "(II)I"⟩
abbrev cX10_at : ByteArray := prog_1_method_7_code
def yX10_at : MethodName := ⟨RX10, "at", "(II)I"⟩
abbrev cX10_first : ByteArray := prog_1_method_8_code
def yX10_first : MethodName := ⟨RX10, "first", "(II)I"⟩
abbrev cX10_often : ByteArray := prog_1_method_9_code
def yX10_often : MethodName := ⟨RX10, "often", "(III)I"⟩
abbrev cX10_run : ByteArray := prog_1_method_10_code
def yX10_run : MethodName := ⟨RX10, "run", "(III)I"⟩
abbrev cX10_most : ByteArray := prog_1_method_11_code
def yX10_most : MethodName := ⟨RX10, "most", "(III)I"⟩
abbrev cX10_around : ByteArray := prog_1_method_12_code
def yX10_around : MethodName := ⟨RX10, "around", "(II)I"⟩
abbrev cX10_number : ByteArray := prog_1_method_13_code
def yX10_number : MethodName := ⟨RX10, "number", "(I)I"⟩
abbrev cX10_noNumbers : ByteArray := prog_1_method_14_code
def yX10_noNumbers : MethodName := ⟨RX10, "noNumbers", "()I"⟩
abbrev cX10_breaks : ByteArray := prog_1_method_15_code
def yX10_breaks : MethodName := ⟨RX10, "breaks", "(I)I"⟩
abbrev cX10_may : ByteArray := prog_1_method_16_code
def yX10_may : MethodName := ⟨RX10, "may", "()I"⟩
abbrev cX10_figure : ByteArray := prog_1_method_17_code
def yX10_figure : MethodName := ⟨RX10, "figure", "(I)I"⟩
abbrev cX10_noFigures : ByteArray := prog_1_method_18_code
def yX10_noFigures : MethodName := ⟨RX10, "noFigures", "()I"⟩
abbrev cX10_said : ByteArray := prog_1_method_19_code
def yX10_said : MethodName := ⟨RX10, "said", "(ZII)I"⟩
abbrev cX10_unsaid : ByteArray := prog_1_method_20_code
def yX10_unsaid : MethodName := ⟨RX10, "unsaid", "(I)I"⟩
abbrev cX10_backs : ByteArray := prog_1_method_21_code
def yX10_backs : MethodName := ⟨RX10, "backs", "()I"⟩
abbrev cX10_round : ByteArray := prog_1_method_22_code
def yX10_round : MethodName := ⟨RX10, "round", "(I)I"⟩
abbrev cX10_tellers : ByteArray := prog_1_method_23_code
def yX10_tellers : MethodName := ⟨RX10, "tellers", "(II)J"⟩
abbrev cX10_count : ByteArray := prog_1_method_24_code
def yX10_count : MethodName := ⟨RX10, "count", "(I)I"⟩
abbrev cX10_isNumber : ByteArray := prog_1_method_25_code
def yX10_isNumber : MethodName := ⟨RX10, "isNumber", "(I)Z"⟩
abbrev cX10_registerOf : ByteArray := prog_1_method_26_code
def yX10_registerOf : MethodName := ⟨RX10, "registerOf", "(I)LTellingRows$Row;"⟩
abbrev cX10_madeRow : ByteArray := prog_1_method_27_code
def yX10_madeRow : MethodName := ⟨RX10, "madeRow", "(I)LTellingRows$Row;"⟩
abbrev cX10_part : ByteArray := prog_1_method_28_code
def yX10_part : MethodName := ⟨RX10, "part", "(LTellingRows$Sequence;I)I"⟩
def RX11 : String := "TellingRowsModel"
def TX11 : u_T := fun k => match k with
  | 0 => ("TellingRowsModel", "length", "I", false)
  | 1 => ("TellingRowsModel", "text", "[B", true)
  | 2 => ("TellingRowsModel", "at", "I", false)
  | 3 => ("TellingRowsModel", "law", "[I", true)
  | 4 => ("TellingRowsModel", "read", "[I", true)
  | 5 => ("TellingRowsModel", "readItems", "I", false)
  | 6 => ("TellingRowsModel", "laid", "I", false)
  | 7 => ("TellingRowsModel", "many", "I", false)
  | 8 => ("TellingRowsModel", "row", "[I", true)
  | 9 => ("TellingRowsModel", "seen", "[I", true)
  | 10 => ("TellingRowsModel", "numbers", "I", false)
  | 11 => ("TellingRowsModel", "number", "[I", true)
  | 12 => ("TellingRowsModel", "figures", "I", false)
  | 13 => ("TellingRowsModel", "figure", "[I", true)
  | 14 => ("TellingRowsModel", "lineMany", "I", false)
  | 15 => ("TellingRowsModel", "line", "[I", true)
  | 16 => ("TellingRowsModel", "other", "[I", true)
  | 17 => ("TellingRowsModel", "stepMany", "[I", true)
  | 18 => ("TellingRowsModel", "step", "[I", true)
  | 19 => ("TellingRowsModel", "digit", "[I", true)
  | _ => ("TellingRowsModel", "isLaid", "[Z", true)
def tyX11 : Nat → FieldType := fun k => match k with
  | 0 => .int
  | 1 => .array .byte
  | 2 => .int
  | 3 => .array .int
  | 4 => .array .int
  | 5 => .int
  | 6 => .int
  | 7 => .int
  | 8 => .array .int
  | 9 => .array .int
  | 10 => .int
  | 11 => .array .int
  | 12 => .int
  | 13 => .array .int
  | 14 => .int
  | 15 => .array .int
  | 16 => .array .int
  | 17 => .array .int
  | 18 => .array .int
  | 19 => .array .int
  | _ => .array .boolean
abbrev wsX110 : List Cond := u_ws RX11 TX11 21
theorem nmX11 : ∀ a, a < 21 → ∀ b, b < 21 → a ≠ b → (TX11 a).2.1 ≠ (TX11 b).2.1 := by decide +kernel
theorem tyX11_ok : ∀ k, k < 21 → parseFieldDescriptor (TX11 k).2.2.1 = some (tyX11 k) := by decide +kernel
abbrev cX11_init : ByteArray := prog_13_method_1_code
def yX11_init : MethodName := ⟨RX11, "<init>", "()V"⟩
abbrev cX11_in : ByteArray := prog_13_method_2_code
def yX11_in : MethodName := ⟨RX11, "in", "(JJJ)Z"⟩
abbrev cX11_write : ByteArray := prog_13_method_3_code
def yX11_write : MethodName := ⟨RX11, "write", "(IJ)I"⟩
abbrev cX11_wipe : ByteArray := prog_13_method_4_code
def yX11_wipe : MethodName := ⟨RX11, "wipe", "()I"⟩
abbrev cX11_is : ByteArray := prog_13_method_5_code
def yX11_is : MethodName := ⟨RX11, "is", "(I)Z"⟩
abbrev cX11_oneOrTwo : ByteArray := prog_13_method_6_code
def yX11_oneOrTwo : MethodName := ⟨RX11, "oneOrTwo", "()I"⟩
abbrev cX11_isItem : ByteArray := prog_13_method_7_code
def yX11_isItem : MethodName := ⟨RX11, "isItem", "()Z"⟩
abbrev cX11_fault : ByteArray := prog_13_method_8_code
def yX11_fault : MethodName := ⟨RX11, "fault", "()I"⟩
abbrev cX11_lay : ByteArray := prog_13_method_9_code
def yX11_lay : MethodName := ⟨RX11, "lay", "()I"⟩
abbrev cX11_isRegister : ByteArray := prog_13_method_10_code
def yX11_isRegister : MethodName := ⟨RX11, "isRegister", "(I)Z"⟩
abbrev cX11_told : ByteArray := prog_13_method_11_code
def yX11_told : MethodName := ⟨RX11, "told", "(II)I"⟩
abbrev cX11_lays : ByteArray := prog_13_method_12_code
def yX11_lays : MethodName := ⟨RX11, "lays", "(I)V"⟩
abbrev cX11_comes : ByteArray := prog_13_method_13_code
def yX11_comes : MethodName := ⟨RX11, "comes", "(II)V"⟩
abbrev cX11_next : ByteArray := prog_13_method_14_code
def yX11_next : MethodName := ⟨RX11, "next", "(I)I"⟩
abbrev cX11_sum : ByteArray := prog_13_method_15_code
def yX11_sum : MethodName := ⟨RX11, "sum", "(II)I"⟩
abbrev cX11_again : ByteArray := prog_13_method_16_code
def yX11_again : MethodName := ⟨RX11, "again", "(I)I"⟩
abbrev cX11_free : ByteArray := prog_13_method_17_code
def yX11_free : MethodName := ⟨RX11, "free", "(I)I"⟩
abbrev cX11_at : ByteArray := prog_13_method_18_code
def yX11_at : MethodName := ⟨RX11, "at", "(II)I"⟩
abbrev cX11_first : ByteArray := prog_13_method_19_code
def yX11_first : MethodName := ⟨RX11, "first", "(II)I"⟩
abbrev cX11_often : ByteArray := prog_13_method_20_code
def yX11_often : MethodName := ⟨RX11, "often", "(III)I"⟩
abbrev cX11_run : ByteArray := prog_13_method_21_code
def yX11_run : MethodName := ⟨RX11, "run", "(III)I"⟩
abbrev cX11_most : ByteArray := prog_13_method_22_code
def yX11_most : MethodName := ⟨RX11, "most", "(III)I"⟩
abbrev cX11_around : ByteArray := prog_13_method_23_code
def yX11_around : MethodName := ⟨RX11, "around", "(II)I"⟩
abbrev cX11_number : ByteArray := prog_13_method_24_code
def yX11_number : MethodName := ⟨RX11, "number", "(I)I"⟩
abbrev cX11_noNumbers : ByteArray := prog_13_method_25_code
def yX11_noNumbers : MethodName := ⟨RX11, "noNumbers", "()I"⟩
abbrev cX11_breaksAt : ByteArray := prog_13_method_26_code
def yX11_breaksAt : MethodName := ⟨RX11, "breaksAt", "(I)I"⟩
abbrev cX11_breaks : ByteArray := prog_13_method_27_code
def yX11_breaks : MethodName := ⟨RX11, "breaks", "(I)I"⟩
abbrev cX11_may : ByteArray := prog_13_method_28_code
def yX11_may : MethodName := ⟨RX11, "may", "()I"⟩
abbrev cX11_figure : ByteArray := prog_13_method_29_code
def yX11_figure : MethodName := ⟨RX11, "figure", "(I)I"⟩
abbrev cX11_noFigures : ByteArray := prog_13_method_30_code
def yX11_noFigures : MethodName := ⟨RX11, "noFigures", "()I"⟩
abbrev cX11_begins : ByteArray := prog_13_method_31_code
def yX11_begins : MethodName := ⟨RX11, "begins", "()V"⟩
abbrev cX11_tells : ByteArray := prog_13_method_32_code
def yX11_tells : MethodName := ⟨RX11, "tells", "(Z)Z"⟩
abbrev cX11_said : ByteArray := prog_13_method_33_code
def yX11_said : MethodName := ⟨RX11, "said", "(ZII)I"⟩
abbrev cX11_untells : ByteArray := prog_13_method_34_code
def yX11_untells : MethodName := ⟨RX11, "untells", "()Z"⟩
abbrev cX11_unsaid : ByteArray := prog_13_method_35_code
def yX11_unsaid : MethodName := ⟨RX11, "unsaid", "(I)I"⟩
abbrev cX11_backs : ByteArray := prog_13_method_36_code
def yX11_backs : MethodName := ⟨RX11, "backs", "()I"⟩
abbrev cX11_areLike : ByteArray := prog_13_method_37_code
def yX11_areLike : MethodName := ⟨RX11, "areLike", "(II)Z"⟩
abbrev cX11_round : ByteArray := prog_13_method_38_code
def yX11_round : MethodName := ⟨RX11, "round", "(I)I"⟩
abbrev cX11_isTeller : ByteArray := prog_13_method_39_code
def yX11_isTeller : MethodName := ⟨RX11, "isTeller", "(I)Z"⟩
abbrev cX11_code : ByteArray := prog_13_method_40_code
def yX11_code : MethodName := ⟨RX11, "code", "(I)J"⟩
abbrev cX11_tellers : ByteArray := prog_13_method_41_code
def yX11_tellers : MethodName := ⟨RX11, "tellers", "(II)J"⟩
abbrev cX11_count : ByteArray := prog_13_method_42_code
def yX11_count : MethodName := ⟨RX11, "count", "(I)I"⟩
def RJx145de : String := "java/io/Serializable"
def TJx145de : u_T := fun k => match k with
  | _ => ("", "", "", false)
def tyJx145de : Nat → FieldType := fun k => match k with
  | _ => .int
abbrev wsJx145de0 : List Cond := u_ws RJx145de TJx145de 0
theorem nmJx145de : ∀ a, a < 0 → ∀ b, b < 0 → a ≠ b → (TJx145de a).2.1 ≠ (TJx145de b).2.1 := by decide +kernel
theorem tyJx145de_ok : ∀ k, k < 0 → parseFieldDescriptor (TJx145de k).2.2.1 = some (tyJx145de k) := by decide +kernel
def RJxb160c : String := "java/lang/Comparable"
def TJxb160c : u_T := fun k => match k with
  | _ => ("", "", "", false)
def tyJxb160c : Nat → FieldType := fun k => match k with
  | _ => .int
abbrev wsJxb160c0 : List Cond := u_ws RJxb160c TJxb160c 0
theorem nmJxb160c : ∀ a, a < 0 → ∀ b, b < 0 → a ≠ b → (TJxb160c a).2.1 ≠ (TJxb160c b).2.1 := by decide +kernel
theorem tyJxb160c_ok : ∀ k, k < 0 → parseFieldDescriptor (TJxb160c k).2.2.1 = some (tyJxb160c k) := by decide +kernel
def RJx29ce0 : String := "java/lang/Enum"
def TJx29ce0 : u_T := fun k => match k with
  | _ => ("", "", "", false)
def tyJx29ce0 : Nat → FieldType := fun k => match k with
  | _ => .int
abbrev wsJx29ce00 : List Cond := u_ws RJx29ce0 TJx29ce0 0
theorem nmJx29ce0 : ∀ a, a < 0 → ∀ b, b < 0 → a ≠ b → (TJx29ce0 a).2.1 ≠ (TJx29ce0 b).2.1 := by decide +kernel
theorem tyJx29ce0_ok : ∀ k, k < 0 → parseFieldDescriptor (TJx29ce0 k).2.2.1 = some (tyJx29ce0 k) := by decide +kernel
abbrev cJx29ce0_ordinal_8abf5 : ByteArray := prog_14_method_2_code
def yJx29ce0_ordinal_8abf5 : MethodName := ⟨RJx29ce0, "ordinal", "()I"⟩
def RJ9 : String := "java/lang/Math"
def TJ9 : u_T := fun k => match k with
  | _ => ("", "", "", false)
def tyJ9 : Nat → FieldType := fun k => match k with
  | _ => .int
abbrev wsJ90 : List Cond := u_ws RJ9 TJ9 0
theorem nmJ9 : ∀ a, a < 0 → ∀ b, b < 0 → a ≠ b → (TJ9 a).2.1 ≠ (TJ9 b).2.1 := by decide +kernel
theorem tyJ9_ok : ∀ k, k < 0 → parseFieldDescriptor (TJ9 k).2.2.1 = some (tyJ9 k) := by decide +kernel
abbrev cJ9_max_7cf53 : ByteArray := prog_15_method_65_code
def yJ9_max_7cf53 : MethodName := ⟨RJ9, "max", "(II)I"⟩
abbrev cJ9_min_7cf53 : ByteArray := prog_15_method_69_code
def yJ9_min_7cf53 : MethodName := ⟨RJ9, "min", "(II)I"⟩
def RJxfd54e : String := "java/lang/constant/Constable"
def TJxfd54e : u_T := fun k => match k with
  | _ => ("", "", "", false)
def tyJxfd54e : Nat → FieldType := fun k => match k with
  | _ => .int
abbrev wsJxfd54e0 : List Cond := u_ws RJxfd54e TJxfd54e 0
theorem nmJxfd54e : ∀ a, a < 0 → ∀ b, b < 0 → a ≠ b → (TJxfd54e a).2.1 ≠ (TJxfd54e b).2.1 := by decide +kernel
theorem tyJxfd54e_ok : ∀ k, k < 0 → parseFieldDescriptor (TJxfd54e k).2.2.1 = some (tyJxfd54e k) := by decide +kernel
def RJ7 : String := "java/util/Arrays"
def TJ7 : u_T := fun k => match k with
  | _ => ("", "", "", false)
def tyJ7 : Nat → FieldType := fun k => match k with
  | _ => .int
abbrev wsJ70 : List Cond := u_ws RJ7 TJ7 0
theorem nmJ7 : ∀ a, a < 0 → ∀ b, b < 0 → a ≠ b → (TJ7 a).2.1 ≠ (TJ7 b).2.1 := by decide +kernel
theorem tyJ7_ok : ∀ k, k < 0 → parseFieldDescriptor (TJ7 k).2.2.1 = some (tyJ7 k) := by decide +kernel
abbrev cJ7_fill_53178 : ByteArray := prog_16_method_103_code
def yJ7_fill_53178 : MethodName := ⟨RJ7, "fill", "([II)V"⟩
def RL : String := "TellingRowsLaw"
abbrev cL_law : ByteArray := code
def yL_law : MethodName := ⟨RL, "law", "([I)Z"⟩
def wsX6_init : List Cond := .code yX6_init cX6_init 2 none :: ([.methodLink RX6 3 objectInit, .instanceMethod objectInit, .code objectInit ⟨#[0xb1]⟩ 1 none, .methodLink RX6 9 Lib.Math.max.name, .static Lib.Math.max.name, .initialized "java/lang/Math", .code Lib.Math.max.name Lib.Math.max.code 2 (some .int), .arrayClass .int, .fieldLink RX6 15 "TellingRows$Sequence" "items" "[I"] ++ wsX60)
def wsX1_init : List Cond := .code yX1_init cX1_init 1 none :: ([.methodLink RX1 3 objectInit, .instanceMethod objectInit, .code objectInit ⟨#[0xb1]⟩ 1 none, .classLink RX1 9 RX6, .instantiable RX6 2, .initialized RX6, .fieldLink RX1 14 "TellingRows$Item" "read" "LTellingRows$Sequence;", .fieldLink RX1 20 "TellingRows$Item" "beginnings" "LTellingRows$Sequence;", .methodLink RX1 11 yX6_init, .instanceMethod yX6_init, .code yX6_init cX6_init 2 none, .methodLink RX6 3 objectInit, .methodLink RX6 9 Lib.Math.max.name, .static Lib.Math.max.name, .initialized "java/lang/Math", .code Lib.Math.max.name Lib.Math.max.code 2 (some .int), .arrayClass .int, .fieldLink RX6 15 "TellingRows$Sequence" "items" "[I"] ++ wsX60 ++ wsX10)
def wsX1_end : List Cond := .code yX1_end cX1_end 1 (some .int) :: ([.fieldLink RX1 23 "TellingRows$Item" "end" "I"] ++ wsX10)
def wsX6_get : List Cond := .code yX6_get cX6_get 2 (some .int) :: ([.fieldLink RX6 21 "TellingRows$Sequence" "size" "I", .fieldLink RX6 15 "TellingRows$Sequence" "items" "[I"] ++ wsX60)
def wsX1_register : List Cond := .code yX1_register cX1_register 1 (some .int) :: ([.fieldLink RX1 14 "TellingRows$Item" "read" "LTellingRows$Sequence;", .methodLink RX1 27 yX6_get, .instanceMethod yX6_get, .selects RX6 yX6_get yX6_get, .initialized RX6, .code yX6_get cX6_get 2 (some .int), .fieldLink RX6 21 "TellingRows$Sequence" "size" "I", .fieldLink RX6 15 "TellingRows$Sequence" "items" "[I"] ++ wsX10 ++ wsX60)
def wsX1_sort : List Cond := .code yX1_sort cX1_sort 2 (some (.object "TellingRows$Sort")) :: ([.fieldLink RX1 14 "TellingRows$Item" "read" "LTellingRows$Sequence;", .methodLink RX1 27 yX6_get, .instanceMethod yX6_get, .selects RX6 yX6_get yX6_get, .initialized RX6, .code yX6_get cX6_get 2 (some .int), .fieldLink RX6 21 "TellingRows$Sequence" "size" "I", .fieldLink RX6 15 "TellingRows$Sequence" "items" "[I"] ++ wsX10 ++ wsX60)
def wsX6_clear : List Cond := .code yX6_clear cX6_clear 2 (some .int) :: ([.fieldLink RX6 21 "TellingRows$Sequence" "size" "I"] ++ wsX60)
def wsX6_size : List Cond := .code yX6_size cX6_size 1 (some .int) :: ([.fieldLink RX6 21 "TellingRows$Sequence" "size" "I"] ++ wsX60)
def wsX6_add : List Cond := .code yX6_add cX6_add 2 (some .boolean) :: ([.fieldLink RX6 21 "TellingRows$Sequence" "size" "I", .fieldLink RX6 15 "TellingRows$Sequence" "items" "[I"] ++ wsX60)
def wsX1_readsNumbers : List Cond := .code yX1_readsNumbers cX1_readsNumbers 7 (some .boolean) :: ([.fieldLink RX1 14 "TellingRows$Item" "read" "LTellingRows$Sequence;", .fieldLink RX1 23 "TellingRows$Item" "end" "I", .methodLink RX1 43 yX6_clear, .instanceMethod yX6_clear, .selects RX6 yX6_clear yX6_clear, .initialized RX6, .code yX6_clear cX6_clear 2 (some .int), .fieldLink RX6 21 "TellingRows$Sequence" "size" "I", .methodLink RX1 27 yX6_get, .instanceMethod yX6_get, .selects RX6 yX6_get yX6_get, .code yX6_get cX6_get 2 (some .int), .fieldLink RX6 15 "TellingRows$Sequence" "items" "[I", .methodLink RX1 46 yX6_size, .instanceMethod yX6_size, .selects RX6 yX6_size yX6_size, .code yX6_size cX6_size 1 (some .int), .methodLink RX1 49 yX6_add, .instanceMethod yX6_add, .selects RX6 yX6_add yX6_add, .code yX6_add cX6_add 2 (some .boolean)] ++ wsX10 ++ wsX60)
def wsX7_allows : List Cond := .code yX7_allows cX7_allows 3 (some .boolean) :: ([.fieldLink RX7 48 "TellingRows$Sort" "fewest" "I", .fieldLink RX7 51 "TellingRows$Sort" "most" "I", .fieldLink RX7 54 "TellingRows$Sort" "lowest" "I", .fieldLink RX7 57 "TellingRows$Sort" "highest" "I", .fieldLink RX7 16 "TellingRows$Sort" "SUMS" "LTellingRows$Sort;", .methodLink RX7 60 yX6_size, .instanceMethod yX6_size, .selects RX6 yX6_size yX6_size, .initialized RX6, .code yX6_size cX6_size 1 (some .int), .fieldLink RX6 21 "TellingRows$Sequence" "size" "I", .methodLink RX7 66 yX6_get, .instanceMethod yX6_get, .selects RX6 yX6_get yX6_get, .code yX6_get cX6_get 2 (some .int), .fieldLink RX6 15 "TellingRows$Sequence" "items" "[I"] ++ wsX60)
def wsX1_standsAt_r1 : List Cond := [Cond.fieldLink RX1 20 "TellingRows$Item" "beginnings" "LTellingRows$Sequence;", Cond.fieldLink RX1 14 "TellingRows$Item" "read" "LTellingRows$Sequence;", Cond.methodLink RX1 35 yX1_readsNumbers, Cond.instanceMethod yX1_readsNumbers, Cond.selects RX1 yX1_readsNumbers yX1_readsNumbers, Cond.initialized RX1, Cond.code yX1_readsNumbers cX1_readsNumbers 7 (some .boolean), Cond.fieldLink RX1 23 "TellingRows$Item" "end" "I", Cond.methodLink RX1 43 yX6_clear, Cond.instanceMethod yX6_clear, Cond.selects RX6 yX6_clear yX6_clear, Cond.initialized RX6, Cond.code yX6_clear cX6_clear 2 (some .int), Cond.fieldLink RX6 21 "TellingRows$Sequence" "size" "I", Cond.methodLink RX1 27 yX6_get, Cond.instanceMethod yX6_get, Cond.selects RX6 yX6_get yX6_get, Cond.code yX6_get cX6_get 2 (some .int), Cond.fieldLink RX6 15 "TellingRows$Sequence" "items" "[I", Cond.methodLink RX1 46 yX6_size, Cond.instanceMethod yX6_size, Cond.selects RX6 yX6_size yX6_size, Cond.code yX6_size cX6_size 1 (some .int), Cond.methodLink RX1 49 yX6_add]
def wsX1_standsAt_r2 : List Cond := [Cond.instanceMethod yX6_add, Cond.selects RX6 yX6_add yX6_add, Cond.code yX6_add cX6_add 2 (some .boolean), Cond.methodLink RX1 39 yX1_register, Cond.instanceMethod yX1_register, Cond.selects RX1 yX1_register yX1_register, Cond.code yX1_register cX1_register 1 (some .int), Cond.methodLink RX1 53 yX1_sort, Cond.instanceMethod yX1_sort, Cond.selects RX1 yX1_sort yX1_sort, Cond.code yX1_sort cX1_sort 2 (some (.object "TellingRows$Sort")), Cond.methodLink RX1 57 yX7_allows, Cond.instanceMethod yX7_allows, Cond.selects RX7 yX7_allows yX7_allows, Cond.initialized RX7, Cond.code yX7_allows cX7_allows 3 (some .boolean), Cond.fieldLink RX7 48 "TellingRows$Sort" "fewest" "I", Cond.fieldLink RX7 51 "TellingRows$Sort" "most" "I", Cond.fieldLink RX7 54 "TellingRows$Sort" "lowest" "I", Cond.fieldLink RX7 57 "TellingRows$Sort" "highest" "I", Cond.fieldLink RX7 16 "TellingRows$Sort" "SUMS" "LTellingRows$Sort;", Cond.methodLink RX7 60 yX6_size, Cond.methodLink RX7 66 yX6_get]
def wsX1_standsAt : List Cond := .code yX1_standsAt cX1_standsAt 4 (some .boolean) :: ((wsX1_standsAt_r1 ++ wsX1_standsAt_r2) ++ wsX10 ++ wsX60)
def wsX2_init : List Cond := .code yX2_init cX2_init 2 none :: ([.methodLink RX2 3 objectInit, .instanceMethod objectInit, .code objectInit ⟨#[0xb1]⟩ 1 none, .arrayClass .int, .fieldLink RX2 9 "TellingRows$Maker" "alike" "[I", .fieldLink RX2 15 "TellingRows$Maker" "marks" "LTellingRows$Marks;"] ++ wsX20)
def wsJ7_fill_53178 : List Cond := .code yJ7_fill_53178 cJ7_fill_53178 4 none :: ([])
def wsX3_clear : List Cond := .code yX3_clear cX3_clear 1 none :: ([.fieldLink RX3 10 "TellingRows$Marks" "marks" "[I", .methodLink RX3 16 yJ7_fill_53178, .static yJ7_fill_53178, .initialized RJ7, .code yJ7_fill_53178 cJ7_fill_53178 4 none] ++ wsX30)
def wsJx29ce0_ordinal_8abf5 : List Cond := .code yJx29ce0_ordinal_8abf5 cJx29ce0_ordinal_8abf5 1 (some .int) :: ([.fieldLink RJx29ce0 7 "java/lang/Enum" "ordinal" "I"])
def wsX2_reach : List Cond := .code yX2_reach cX2_reach 6 (some .int) :: ([])
def wsX2_fold : List Cond := .code yX2_fold cX2_fold 4 (some .int) :: ([])
def wsX3_of : List Cond := .code yX3_of cX3_of 2 (some .int) :: ([.fieldLink RX3 10 "TellingRows$Marks" "marks" "[I"] ++ wsX30)
def wsX3_put : List Cond := .code yX3_put cX3_put 3 none :: ([.fieldLink RX3 10 "TellingRows$Marks" "marks" "[I"] ++ wsX30)
def wsX2_back : List Cond := .code yX2_back cX2_back 4 (some .int) :: ([.fieldLink RX2 15 "TellingRows$Maker" "marks" "LTellingRows$Marks;", .methodLink RX2 102 yX3_of, .instanceMethod yX3_of, .selects RX3 yX3_of yX3_of, .initialized RX3, .code yX3_of cX3_of 2 (some .int), .fieldLink RX3 10 "TellingRows$Marks" "marks" "[I", .methodLink RX2 105 yX3_put, .instanceMethod yX3_put, .selects RX3 yX3_put yX3_put, .code yX3_put cX3_put 3 none] ++ wsX20 ++ wsX30)
def wsX2_again : List Cond := .code yX2_again cX2_again 5 (some .int) :: ([.fieldLink RX2 9 "TellingRows$Maker" "alike" "[I", .methodLink RX2 109 Lib.Math.max.name, .static Lib.Math.max.name, .initialized "java/lang/Math", .code Lib.Math.max.name Lib.Math.max.code 2 (some .int)] ++ wsX20)
def wsX3_raise : List Cond := .code yX3_raise cX3_raise 2 none :: ([.fieldLink RX3 10 "TellingRows$Marks" "marks" "[I"] ++ wsX30)
def wsX2_sum : List Cond := .code yX2_sum cX2_sum 5 (some .int) :: ([.fieldLink RX2 15 "TellingRows$Maker" "marks" "LTellingRows$Marks;", .constant RX2 118 (60000), .methodLink RX2 114 yX3_raise, .instanceMethod yX3_raise, .selects RX3 yX3_raise yX3_raise, .initialized RX3, .code yX3_raise cX3_raise 2 none, .fieldLink RX3 10 "TellingRows$Marks" "marks" "[I", .methodLink RX2 102 yX3_of, .instanceMethod yX3_of, .selects RX3 yX3_of yX3_of, .code yX3_of cX3_of 2 (some .int)] ++ wsX20 ++ wsX30)
def wsX2_soFar : List Cond := .code yX2_soFar cX2_soFar 2 (some .int) :: ([.fieldLink RX2 15 "TellingRows$Maker" "marks" "LTellingRows$Marks;", .methodLink RX2 114 yX3_raise, .instanceMethod yX3_raise, .selects RX3 yX3_raise yX3_raise, .initialized RX3, .code yX3_raise cX3_raise 2 none, .fieldLink RX3 10 "TellingRows$Marks" "marks" "[I", .methodLink RX2 102 yX3_of, .instanceMethod yX3_of, .selects RX3 yX3_of yX3_of, .code yX3_of cX3_of 2 (some .int)] ++ wsX20 ++ wsX30)
def wsX2_free : List Cond := .code yX2_free cX2_free 4 (some .int) :: ([.fieldLink RX2 15 "TellingRows$Maker" "marks" "LTellingRows$Marks;", .methodLink RX2 105 yX3_put, .instanceMethod yX3_put, .selects RX3 yX3_put yX3_put, .initialized RX3, .code yX3_put cX3_put 3 none, .fieldLink RX3 10 "TellingRows$Marks" "marks" "[I", .methodLink RX2 102 yX3_of, .instanceMethod yX3_of, .selects RX3 yX3_of yX3_of, .code yX3_of cX3_of 2 (some .int)] ++ wsX20 ++ wsX30)
def wsX2_due_r1 : List Cond := [Cond.fieldLink RX2 69 "TellingRows$1" "$SwitchMap$TellingRows$Sort" "[I", Cond.methodLink RX2 74 ⟨"TellingRows$Sort", "ordinal", "()I"⟩, Cond.sameMethod "TellingRows$Sort" "java/lang/Enum" "ordinal" "()I", Cond.selects RX7 ⟨"TellingRows$Sort", "ordinal", "()I"⟩ yJx29ce0_ordinal_8abf5, Cond.instanceMethod yJx29ce0_ordinal_8abf5, Cond.initialized RJx29ce0, Cond.code yJx29ce0_ordinal_8abf5 cJx29ce0_ordinal_8abf5 1 (some .int), Cond.fieldLink RJx29ce0 7 "java/lang/Enum" "ordinal" "I", Cond.methodLink RX2 79 yX2_reach, Cond.instanceMethod yX2_reach, Cond.selects RX2 yX2_reach yX2_reach, Cond.initialized RX2, Cond.code yX2_reach cX2_reach 6 (some .int), Cond.methodLink RX2 83 yX2_fold, Cond.instanceMethod yX2_fold, Cond.selects RX2 yX2_fold yX2_fold, Cond.code yX2_fold cX2_fold 4 (some .int), Cond.methodLink RX2 86 yX2_back, Cond.instanceMethod yX2_back, Cond.selects RX2 yX2_back yX2_back, Cond.code yX2_back cX2_back 4 (some .int), Cond.fieldLink RX2 15 "TellingRows$Maker" "marks" "LTellingRows$Marks;", Cond.methodLink RX2 102 yX3_of, Cond.instanceMethod yX3_of]
def wsX2_due_r2 : List Cond := [Cond.selects RX3 yX3_of yX3_of, Cond.initialized RX3, Cond.code yX3_of cX3_of 2 (some .int), Cond.fieldLink RX3 10 "TellingRows$Marks" "marks" "[I", Cond.methodLink RX2 105 yX3_put, Cond.instanceMethod yX3_put, Cond.selects RX3 yX3_put yX3_put, Cond.code yX3_put cX3_put 3 none, Cond.methodLink RX2 90 yX2_again, Cond.instanceMethod yX2_again, Cond.selects RX2 yX2_again yX2_again, Cond.code yX2_again cX2_again 5 (some .int), Cond.fieldLink RX2 9 "TellingRows$Maker" "alike" "[I", Cond.methodLink RX2 109 Lib.Math.max.name, Cond.static Lib.Math.max.name, Cond.initialized "java/lang/Math", Cond.code Lib.Math.max.name Lib.Math.max.code 2 (some .int), Cond.methodLink RX2 93 yX2_sum, Cond.instanceMethod yX2_sum, Cond.selects RX2 yX2_sum yX2_sum, Cond.code yX2_sum cX2_sum 5 (some .int), Cond.constant RX2 118 (60000), Cond.methodLink RX2 114 yX3_raise, Cond.instanceMethod yX3_raise]
def wsX2_due_r3 : List Cond := [Cond.selects RX3 yX3_raise yX3_raise, Cond.code yX3_raise cX3_raise 2 none, Cond.methodLink RX2 96 yX2_soFar, Cond.instanceMethod yX2_soFar, Cond.selects RX2 yX2_soFar yX2_soFar, Cond.code yX2_soFar cX2_soFar 2 (some .int), Cond.methodLink RX2 99 yX2_free, Cond.instanceMethod yX2_free, Cond.selects RX2 yX2_free yX2_free, Cond.code yX2_free cX2_free 4 (some .int)]
def wsX2_due : List Cond := .code yX2_due cX2_due 4 (some .int) :: ((wsX2_due_r1 ++ (wsX2_due_r2 ++ wsX2_due_r3)) ++ wsX20 ++ wsX30)
def wsX10_isNumber : List Cond := .code yX10_isNumber cX10_isNumber 1 (some .boolean) :: ([.constant RX10 201 (60000)])
def wsX2_make_r1 : List Cond := [Cond.fieldLink RX2 15 "TellingRows$Maker" "marks" "LTellingRows$Marks;", Cond.fieldLink RX2 9 "TellingRows$Maker" "alike" "[I", Cond.methodLink RX2 19 yX3_clear, Cond.instanceMethod yX3_clear, Cond.selects RX3 yX3_clear yX3_clear, Cond.initialized RX3, Cond.code yX3_clear cX3_clear 1 none, Cond.fieldLink RX3 10 "TellingRows$Marks" "marks" "[I", Cond.methodLink RX3 16 yJ7_fill_53178, Cond.static yJ7_fill_53178, Cond.initialized RJ7, Cond.code yJ7_fill_53178 cJ7_fill_53178 4 none, Cond.methodLink RX2 24 yJ7_fill_53178, Cond.methodLink RX2 39 yX2_due, Cond.instanceMethod yX2_due, Cond.selects RX2 yX2_due yX2_due, Cond.initialized RX2, Cond.code yX2_due cX2_due 4 (some .int), Cond.fieldLink RX2 69 "TellingRows$1" "$SwitchMap$TellingRows$Sort" "[I", Cond.methodLink RX2 74 ⟨"TellingRows$Sort", "ordinal", "()I"⟩, Cond.sameMethod "TellingRows$Sort" "java/lang/Enum" "ordinal" "()I", Cond.selects RX7 ⟨"TellingRows$Sort", "ordinal", "()I"⟩ yJx29ce0_ordinal_8abf5, Cond.instanceMethod yJx29ce0_ordinal_8abf5, Cond.initialized RJx29ce0]
def wsX2_make_r2 : List Cond := [Cond.code yJx29ce0_ordinal_8abf5 cJx29ce0_ordinal_8abf5 1 (some .int), Cond.fieldLink RJx29ce0 7 "java/lang/Enum" "ordinal" "I", Cond.methodLink RX2 79 yX2_reach, Cond.instanceMethod yX2_reach, Cond.selects RX2 yX2_reach yX2_reach, Cond.code yX2_reach cX2_reach 6 (some .int), Cond.methodLink RX2 83 yX2_fold, Cond.instanceMethod yX2_fold, Cond.selects RX2 yX2_fold yX2_fold, Cond.code yX2_fold cX2_fold 4 (some .int), Cond.methodLink RX2 86 yX2_back, Cond.instanceMethod yX2_back, Cond.selects RX2 yX2_back yX2_back, Cond.code yX2_back cX2_back 4 (some .int), Cond.methodLink RX2 102 yX3_of, Cond.instanceMethod yX3_of, Cond.selects RX3 yX3_of yX3_of, Cond.code yX3_of cX3_of 2 (some .int), Cond.methodLink RX2 105 yX3_put, Cond.instanceMethod yX3_put, Cond.selects RX3 yX3_put yX3_put, Cond.code yX3_put cX3_put 3 none, Cond.methodLink RX2 90 yX2_again, Cond.instanceMethod yX2_again]
def wsX2_make_r3 : List Cond := [Cond.selects RX2 yX2_again yX2_again, Cond.code yX2_again cX2_again 5 (some .int), Cond.methodLink RX2 109 Lib.Math.max.name, Cond.static Lib.Math.max.name, Cond.initialized "java/lang/Math", Cond.code Lib.Math.max.name Lib.Math.max.code 2 (some .int), Cond.methodLink RX2 93 yX2_sum, Cond.instanceMethod yX2_sum, Cond.selects RX2 yX2_sum yX2_sum, Cond.code yX2_sum cX2_sum 5 (some .int), Cond.constant RX2 118 (60000), Cond.methodLink RX2 114 yX3_raise, Cond.instanceMethod yX3_raise, Cond.selects RX3 yX3_raise yX3_raise, Cond.code yX3_raise cX3_raise 2 none, Cond.methodLink RX2 96 yX2_soFar, Cond.instanceMethod yX2_soFar, Cond.selects RX2 yX2_soFar yX2_soFar, Cond.code yX2_soFar cX2_soFar 2 (some .int), Cond.methodLink RX2 99 yX2_free, Cond.instanceMethod yX2_free, Cond.selects RX2 yX2_free yX2_free, Cond.code yX2_free cX2_free 4 (some .int), Cond.methodLink RX2 47 yX6_size]
def wsX2_make_r4 : List Cond := [Cond.instanceMethod yX6_size, Cond.selects RX6 yX6_size yX6_size, Cond.initialized RX6, Cond.code yX6_size cX6_size 1 (some .int), Cond.fieldLink RX6 21 "TellingRows$Sequence" "size" "I", Cond.methodLink RX2 53 yX6_get, Cond.instanceMethod yX6_get, Cond.selects RX6 yX6_get yX6_get, Cond.code yX6_get cX6_get 2 (some .int), Cond.fieldLink RX6 15 "TellingRows$Sequence" "items" "[I", Cond.static yX10_isNumber, Cond.initialized RX10, Cond.code yX10_isNumber cX10_isNumber 1 (some .boolean), Cond.constant RX10 201 (60000)]
def wsX2_make : List Cond := .code yX2_make cX2_make 6 none :: ((wsX2_make_r1 ++ (wsX2_make_r2 ++ (wsX2_make_r3 ++ wsX2_make_r4))) ++ wsX20 ++ wsX50 ++ wsX30 ++ wsX60)
def wsX3_init : List Cond := .code yX3_init cX3_init 1 none :: ([.methodLink RX3 3 objectInit, .instanceMethod objectInit, .code objectInit ⟨#[0xb1]⟩ 1 none, .constant RX3 9 (60001), .arrayClass .int, .fieldLink RX3 10 "TellingRows$Marks" "marks" "[I"] ++ wsX30)
def wsX4_init : List Cond := .code yX4_init cX4_init 2 none :: ([.methodLink RX4 3 objectInit, .instanceMethod objectInit, .code objectInit ⟨#[0xb1]⟩ 1 none, .classLink RX4 9 RX6, .fieldLink RX4 11 "TellingRows$Rounds" "steps" "[LTellingRows$Sequence;", .instantiable RX6 2, .initialized RX6, .methodLink RX4 17 yX6_init, .instanceMethod yX6_init, .code yX6_init cX6_init 2 none, .methodLink RX6 3 objectInit, .methodLink RX6 9 Lib.Math.max.name, .static Lib.Math.max.name, .initialized "java/lang/Math", .code Lib.Math.max.name Lib.Math.max.code 2 (some .int), .arrayClass .int, .fieldLink RX6 15 "TellingRows$Sequence" "items" "[I"] ++ wsX40 ++ wsX60)
def wsX4_tail : List Cond := .code yX4_tail cX4_tail 1 (some .int) :: ([.fieldLink RX4 20 "TellingRows$Rounds" "tail" "I"] ++ wsX40)
def wsX4_length : List Cond := .code yX4_length cX4_length 1 (some .int) :: ([.fieldLink RX4 24 "TellingRows$Rounds" "length" "I"] ++ wsX40)
def wsX6_copy : List Cond := .code yX6_copy cX6_copy 3 none :: ([.fieldLink RX6 21 "TellingRows$Sequence" "size" "I", .methodLink RX6 25 yX6_get, .instanceMethod yX6_get, .selects RX6 yX6_get yX6_get, .initialized RX6, .code yX6_get cX6_get 2 (some .int), .fieldLink RX6 15 "TellingRows$Sequence" "items" "[I", .methodLink RX6 29 yX6_add, .instanceMethod yX6_add, .selects RX6 yX6_add yX6_add, .code yX6_add cX6_add 2 (some .boolean)] ++ wsX60)
def wsX8_tally : List Cond := .code yX8_tally cX8_tally 5 (some .boolean) :: ([.methodLink RX8 37 yX6_clear, .instanceMethod yX6_clear, .selects RX6 yX6_clear yX6_clear, .initialized RX6, .code yX6_clear cX6_clear 2 (some .int), .fieldLink RX6 21 "TellingRows$Sequence" "size" "I", .methodLink RX8 41 yX6_size, .instanceMethod yX6_size, .selects RX6 yX6_size yX6_size, .code yX6_size cX6_size 1 (some .int), .methodLink RX8 44 yX6_get, .instanceMethod yX6_get, .selects RX6 yX6_get yX6_get, .code yX6_get cX6_get 2 (some .int), .fieldLink RX6 15 "TellingRows$Sequence" "items" "[I", .methodLink RX8 48 yX6_add, .instanceMethod yX6_add, .selects RX6 yX6_add yX6_add, .code yX6_add cX6_add 2 (some .boolean)] ++ wsX60)
def wsX6_same : List Cond := .code yX6_same cX6_same 3 (some .boolean) :: ([.fieldLink RX6 21 "TellingRows$Sequence" "size" "I", .methodLink RX6 25 yX6_get, .instanceMethod yX6_get, .selects RX6 yX6_get yX6_get, .initialized RX6, .code yX6_get cX6_get 2 (some .int), .fieldLink RX6 15 "TellingRows$Sequence" "items" "[I"] ++ wsX60)
def wsX4_find_r1 : List Cond := [Cond.fieldLink RX4 11 "TellingRows$Rounds" "steps" "[LTellingRows$Sequence;", Cond.fieldLink RX4 20 "TellingRows$Rounds" "tail" "I", Cond.fieldLink RX4 24 "TellingRows$Rounds" "length" "I", Cond.methodLink RX4 27 yX6_copy, Cond.instanceMethod yX6_copy, Cond.selects RX6 yX6_copy yX6_copy, Cond.initialized RX6, Cond.code yX6_copy cX6_copy 3 none, Cond.fieldLink RX6 21 "TellingRows$Sequence" "size" "I", Cond.methodLink RX6 25 yX6_get, Cond.instanceMethod yX6_get, Cond.selects RX6 yX6_get yX6_get, Cond.code yX6_get cX6_get 2 (some .int), Cond.fieldLink RX6 15 "TellingRows$Sequence" "items" "[I", Cond.methodLink RX6 29 yX6_add, Cond.instanceMethod yX6_add, Cond.selects RX6 yX6_add yX6_add, Cond.code yX6_add cX6_add 2 (some .boolean), Cond.methodLink RX4 31 yX8_tally, Cond.static yX8_tally, Cond.initialized RX8, Cond.code yX8_tally cX8_tally 5 (some .boolean), Cond.methodLink RX8 37 yX6_clear, Cond.instanceMethod yX6_clear]
def wsX4_find_r2 : List Cond := [Cond.selects RX6 yX6_clear yX6_clear, Cond.code yX6_clear cX6_clear 2 (some .int), Cond.methodLink RX8 41 yX6_size, Cond.instanceMethod yX6_size, Cond.selects RX6 yX6_size yX6_size, Cond.code yX6_size cX6_size 1 (some .int), Cond.methodLink RX8 44 yX6_get, Cond.methodLink RX8 48 yX6_add, Cond.methodLink RX4 37 yX6_same, Cond.instanceMethod yX6_same, Cond.selects RX6 yX6_same yX6_same, Cond.code yX6_same cX6_same 3 (some .boolean)]
def wsX4_find : List Cond := .code yX4_find cX4_find 4 (some .boolean) :: ((wsX4_find_r1 ++ wsX4_find_r2) ++ wsX40 ++ wsX60)
def wsX5_init_r1 : List Cond := [Cond.methodLink RX5 3 objectInit, Cond.instanceMethod objectInit, Cond.code objectInit ⟨#[0xb1]⟩ 1 none, Cond.classLink RX5 9 RX6, Cond.instantiable RX6 2, Cond.initialized RX6, Cond.fieldLink RX5 14 "TellingRows$Row" "beginnings" "LTellingRows$Sequence;", Cond.arrayClass .int, Cond.fieldLink RX5 20 "TellingRows$Row" "numbers" "[I", Cond.fieldLink RX5 24 "TellingRows$Sort" "REACH" "LTellingRows$Sort;", Cond.fieldLink RX5 30 "TellingRows$Row" "sort" "LTellingRows$Sort;", Cond.methodLink RX5 11 yX6_init, Cond.instanceMethod yX6_init, Cond.code yX6_init cX6_init 2 none, Cond.methodLink RX6 3 objectInit, Cond.methodLink RX6 9 Lib.Math.max.name, Cond.static Lib.Math.max.name, Cond.initialized "java/lang/Math", Cond.code Lib.Math.max.name Lib.Math.max.code 2 (some .int), Cond.fieldLink RX6 15 "TellingRows$Sequence" "items" "[I", Cond.methodLink RX5 33 yX6_add, Cond.instanceMethod yX6_add, Cond.selects RX6 yX6_add yX6_add, Cond.code yX6_add cX6_add 2 (some .boolean)]
def wsX5_init_r2 : List Cond := [Cond.fieldLink RX6 21 "TellingRows$Sequence" "size" "I"]
def wsX5_init : List Cond := .code yX5_init cX5_init 1 none :: ((wsX5_init_r1 ++ wsX5_init_r2) ++ wsX60 ++ wsX50)
def wsX5_become_r1 : List Cond := [Cond.fieldLink RX5 30 "TellingRows$Row" "sort" "LTellingRows$Sort;", Cond.fieldLink RX5 14 "TellingRows$Row" "beginnings" "LTellingRows$Sequence;", Cond.fieldLink RX5 47 "TellingRows$Row" "made" "Z", Cond.methodLink RX5 37 yX1_sort, Cond.instanceMethod yX1_sort, Cond.selects RX1 yX1_sort yX1_sort, Cond.initialized RX1, Cond.code yX1_sort cX1_sort 2 (some (.object "TellingRows$Sort")), Cond.fieldLink RX1 14 "TellingRows$Item" "read" "LTellingRows$Sequence;", Cond.methodLink RX1 27 yX6_get, Cond.instanceMethod yX6_get, Cond.selects RX6 yX6_get yX6_get, Cond.initialized RX6, Cond.code yX6_get cX6_get 2 (some .int), Cond.fieldLink RX6 21 "TellingRows$Sequence" "size" "I", Cond.fieldLink RX6 15 "TellingRows$Sequence" "items" "[I", Cond.methodLink RX5 43 yX6_copy, Cond.instanceMethod yX6_copy, Cond.selects RX6 yX6_copy yX6_copy, Cond.code yX6_copy cX6_copy 3 none, Cond.methodLink RX6 25 yX6_get, Cond.methodLink RX6 29 yX6_add, Cond.instanceMethod yX6_add, Cond.selects RX6 yX6_add yX6_add]
def wsX5_become_r2 : List Cond := [Cond.code yX6_add cX6_add 2 (some .boolean)]
def wsX5_become : List Cond := .code yX5_become cX5_become 3 none :: ((wsX5_become_r1 ++ wsX5_become_r2) ++ wsX50 ++ wsX10 ++ wsX60)
def wsX5_numberAt : List Cond := .code yX5_numberAt cX5_numberAt 2 (some .int) :: ([.fieldLink RX5 51 "TellingRows$Row" "length" "I", .fieldLink RX5 20 "TellingRows$Row" "numbers" "[I"] ++ wsX50)
def wsX5_placeOf : List Cond := .code yX5_placeOf cX5_placeOf 3 (some .int) :: ([.fieldLink RX5 51 "TellingRows$Row" "length" "I", .methodLink RX5 55 yX5_numberAt, .instanceMethod yX5_numberAt, .selects RX5 yX5_numberAt yX5_numberAt, .initialized RX5, .code yX5_numberAt cX5_numberAt 2 (some .int), .fieldLink RX5 20 "TellingRows$Row" "numbers" "[I"] ++ wsX50)
def wsX5_countOf : List Cond := .code yX5_countOf cX5_countOf 5 (some .int) :: ([.fieldLink RX5 51 "TellingRows$Row" "length" "I", .methodLink RX5 55 yX5_numberAt, .instanceMethod yX5_numberAt, .selects RX5 yX5_numberAt yX5_numberAt, .initialized RX5, .code yX5_numberAt cX5_numberAt 2 (some .int), .fieldLink RX5 20 "TellingRows$Row" "numbers" "[I"] ++ wsX50)
def wsX5_runEnd : List Cond := .code yX5_runEnd cX5_runEnd 4 (some .int) :: ([.methodLink RX5 55 yX5_numberAt, .instanceMethod yX5_numberAt, .selects RX5 yX5_numberAt yX5_numberAt, .initialized RX5, .code yX5_numberAt cX5_numberAt 2 (some .int), .fieldLink RX5 51 "TellingRows$Row" "length" "I", .fieldLink RX5 20 "TellingRows$Row" "numbers" "[I"] ++ wsX50)
def wsX5_runStart : List Cond := .code yX5_runStart cX5_runStart 4 (some .int) :: ([.fieldLink RX5 51 "TellingRows$Row" "length" "I", .methodLink RX5 59 yX5_runEnd, .instanceMethod yX5_runEnd, .selects RX5 yX5_runEnd yX5_runEnd, .initialized RX5, .code yX5_runEnd cX5_runEnd 4 (some .int), .methodLink RX5 55 yX5_numberAt, .instanceMethod yX5_numberAt, .selects RX5 yX5_numberAt yX5_numberAt, .code yX5_numberAt cX5_numberAt 2 (some .int), .fieldLink RX5 20 "TellingRows$Row" "numbers" "[I"] ++ wsX50)
def wsX5_greatest : List Cond := .code yX5_greatest cX5_greatest 4 (some .int) :: ([.fieldLink RX5 51 "TellingRows$Row" "length" "I", .methodLink RX5 63 Lib.Math.max.name, .static Lib.Math.max.name, .initialized "java/lang/Math", .code Lib.Math.max.name Lib.Math.max.code 2 (some .int), .methodLink RX5 55 yX5_numberAt, .instanceMethod yX5_numberAt, .selects RX5 yX5_numberAt yX5_numberAt, .initialized RX5, .code yX5_numberAt cX5_numberAt 2 (some .int), .fieldLink RX5 20 "TellingRows$Row" "numbers" "[I"] ++ wsX50)
def wsX5_longestRun : List Cond := .code yX5_longestRun cX5_longestRun 7 (some .int) :: ([.fieldLink RX5 51 "TellingRows$Row" "length" "I", .methodLink RX5 68 Lib.Math.min.name, .static Lib.Math.min.name, .initialized "java/lang/Math", .code Lib.Math.min.name Lib.Math.min.code 2 (some .int), .methodLink RX5 63 Lib.Math.max.name, .static Lib.Math.max.name, .code Lib.Math.max.name Lib.Math.max.code 2 (some .int), .methodLink RX5 59 yX5_runEnd, .instanceMethod yX5_runEnd, .selects RX5 yX5_runEnd yX5_runEnd, .initialized RX5, .code yX5_runEnd cX5_runEnd 4 (some .int), .methodLink RX5 55 yX5_numberAt, .instanceMethod yX5_numberAt, .selects RX5 yX5_numberAt yX5_numberAt, .code yX5_numberAt cX5_numberAt 2 (some .int), .fieldLink RX5 20 "TellingRows$Row" "numbers" "[I"] ++ wsX50)
def wsX5_unlike_r1 : List Cond := [Cond.fieldLink RX5 51 "TellingRows$Row" "length" "I", Cond.methodLink RX5 71 yX3_clear, Cond.instanceMethod yX3_clear, Cond.selects RX3 yX3_clear yX3_clear, Cond.initialized RX3, Cond.code yX3_clear cX3_clear 1 none, Cond.fieldLink RX3 10 "TellingRows$Marks" "marks" "[I", Cond.methodLink RX3 16 yJ7_fill_53178, Cond.static yJ7_fill_53178, Cond.initialized RJ7, Cond.code yJ7_fill_53178 cJ7_fill_53178 4 none, Cond.methodLink RX5 55 yX5_numberAt, Cond.instanceMethod yX5_numberAt, Cond.selects RX5 yX5_numberAt yX5_numberAt, Cond.initialized RX5, Cond.code yX5_numberAt cX5_numberAt 2 (some .int), Cond.fieldLink RX5 20 "TellingRows$Row" "numbers" "[I", Cond.methodLink RX5 76 yX3_of, Cond.instanceMethod yX3_of, Cond.selects RX3 yX3_of yX3_of, Cond.code yX3_of cX3_of 2 (some .int), Cond.methodLink RX5 79 yX3_put, Cond.instanceMethod yX3_put, Cond.selects RX3 yX3_put yX3_put]
def wsX5_unlike_r2 : List Cond := [Cond.code yX3_put cX3_put 3 none]
def wsX5_unlike : List Cond := .code yX5_unlike cX5_unlike 5 (some .int) :: ((wsX5_unlike_r1 ++ wsX5_unlike_r2) ++ wsX50 ++ wsX30)
def wsX5_tail : List Cond := .code yX5_tail cX5_tail 3 (some .int) :: ([.fieldLink RX5 51 "TellingRows$Row" "length" "I", .methodLink RX5 63 Lib.Math.max.name, .static Lib.Math.max.name, .initialized "java/lang/Math", .code Lib.Math.max.name Lib.Math.max.code 2 (some .int), .methodLink RX5 55 yX5_numberAt, .instanceMethod yX5_numberAt, .selects RX5 yX5_numberAt yX5_numberAt, .initialized RX5, .code yX5_numberAt cX5_numberAt 2 (some .int), .fieldLink RX5 20 "TellingRows$Row" "numbers" "[I"] ++ wsX50)
def wsX5_period : List Cond := .code yX5_period cX5_period 2 (some .int) :: ([.fieldLink RX5 51 "TellingRows$Row" "length" "I", .methodLink RX5 83 yX5_tail, .instanceMethod yX5_tail, .selects RX5 yX5_tail yX5_tail, .initialized RX5, .code yX5_tail cX5_tail 3 (some .int), .methodLink RX5 63 Lib.Math.max.name, .static Lib.Math.max.name, .initialized "java/lang/Math", .code Lib.Math.max.name Lib.Math.max.code 2 (some .int), .methodLink RX5 55 yX5_numberAt, .instanceMethod yX5_numberAt, .selects RX5 yX5_numberAt yX5_numberAt, .code yX5_numberAt cX5_numberAt 2 (some .int), .fieldLink RX5 20 "TellingRows$Row" "numbers" "[I"] ++ wsX50)
def wsX8_init : List Cond := .code yX8_init cX8_init 1 none :: ([.methodLink RX8 3 objectInit, .instanceMethod objectInit, .code objectInit ⟨#[0xb1]⟩ 1 none, .classLink RX8 9 RX6, .instantiable RX6 2, .initialized RX6, .fieldLink RX8 14 "TellingRows$Speaker" "one" "LTellingRows$Sequence;", .fieldLink RX8 20 "TellingRows$Speaker" "other" "LTellingRows$Sequence;", .methodLink RX8 11 yX6_init, .instanceMethod yX6_init, .code yX6_init cX6_init 2 none, .methodLink RX6 3 objectInit, .methodLink RX6 9 Lib.Math.max.name, .static Lib.Math.max.name, .initialized "java/lang/Math", .code Lib.Math.max.name Lib.Math.max.code 2 (some .int), .arrayClass .int, .fieldLink RX6 15 "TellingRows$Sequence" "items" "[I"] ++ wsX60 ++ wsX80)
def wsX8_say : List Cond := .code yX8_say cX8_say 4 (some .boolean) :: ([.methodLink RX8 37 yX6_clear, .instanceMethod yX6_clear, .selects RX6 yX6_clear yX6_clear, .initialized RX6, .code yX6_clear cX6_clear 2 (some .int), .fieldLink RX6 21 "TellingRows$Sequence" "size" "I", .methodLink RX8 41 yX6_size, .instanceMethod yX6_size, .selects RX6 yX6_size yX6_size, .code yX6_size cX6_size 1 (some .int), .methodLink RX8 44 yX6_get, .instanceMethod yX6_get, .selects RX6 yX6_get yX6_get, .code yX6_get cX6_get 2 (some .int), .fieldLink RX6 15 "TellingRows$Sequence" "items" "[I", .methodLink RX8 48 yX6_add, .instanceMethod yX6_add, .selects RX6 yX6_add yX6_add, .code yX6_add cX6_add 2 (some .boolean)] ++ wsX60)
def wsX8_speak_r1 : List Cond := [Cond.fieldLink RX8 14 "TellingRows$Speaker" "one" "LTellingRows$Sequence;", Cond.fieldLink RX8 20 "TellingRows$Speaker" "other" "LTellingRows$Sequence;", Cond.methodLink RX8 23 yX6_copy, Cond.instanceMethod yX6_copy, Cond.selects RX6 yX6_copy yX6_copy, Cond.initialized RX6, Cond.code yX6_copy cX6_copy 3 none, Cond.fieldLink RX6 21 "TellingRows$Sequence" "size" "I", Cond.methodLink RX6 25 yX6_get, Cond.instanceMethod yX6_get, Cond.selects RX6 yX6_get yX6_get, Cond.code yX6_get cX6_get 2 (some .int), Cond.fieldLink RX6 15 "TellingRows$Sequence" "items" "[I", Cond.methodLink RX6 29 yX6_add, Cond.instanceMethod yX6_add, Cond.selects RX6 yX6_add yX6_add, Cond.code yX6_add cX6_add 2 (some .boolean), Cond.methodLink RX8 27 yX8_tally, Cond.static yX8_tally, Cond.initialized RX8, Cond.code yX8_tally cX8_tally 5 (some .boolean), Cond.methodLink RX8 37 yX6_clear, Cond.instanceMethod yX6_clear, Cond.selects RX6 yX6_clear yX6_clear]
def wsX8_speak_r2 : List Cond := [Cond.code yX6_clear cX6_clear 2 (some .int), Cond.methodLink RX8 41 yX6_size, Cond.instanceMethod yX6_size, Cond.selects RX6 yX6_size yX6_size, Cond.code yX6_size cX6_size 1 (some .int), Cond.methodLink RX8 44 yX6_get, Cond.methodLink RX8 48 yX6_add, Cond.methodLink RX8 31 yX8_say, Cond.static yX8_say, Cond.code yX8_say cX8_say 4 (some .boolean)]
def wsX8_speak : List Cond := .code yX8_speak cX8_speak 8 (some (.object "TellingRows$Sequence")) :: ((wsX8_speak_r1 ++ wsX8_speak_r2) ++ wsX80 ++ wsX60)
def wsX8_unsay : List Cond := .code yX8_unsay cX8_unsay 5 (some .boolean) :: ([.methodLink RX8 37 yX6_clear, .instanceMethod yX6_clear, .selects RX6 yX6_clear yX6_clear, .initialized RX6, .code yX6_clear cX6_clear 2 (some .int), .fieldLink RX6 21 "TellingRows$Sequence" "size" "I", .methodLink RX8 41 yX6_size, .instanceMethod yX6_size, .selects RX6 yX6_size yX6_size, .code yX6_size cX6_size 1 (some .int), .methodLink RX8 44 yX6_get, .instanceMethod yX6_get, .selects RX6 yX6_get yX6_get, .code yX6_get cX6_get 2 (some .int), .fieldLink RX6 15 "TellingRows$Sequence" "items" "[I", .methodLink RX8 48 yX6_add, .instanceMethod yX6_add, .selects RX6 yX6_add yX6_add, .code yX6_add cX6_add 2 (some .boolean)] ++ wsX60)
def wsX8_takeBack : List Cond := .code yX8_takeBack cX8_takeBack 2 (some (.object "TellingRows$Sequence")) :: ([.fieldLink RX8 14 "TellingRows$Speaker" "one" "LTellingRows$Sequence;", .methodLink RX8 34 yX8_unsay, .static yX8_unsay, .initialized RX8, .code yX8_unsay cX8_unsay 5 (some .boolean), .methodLink RX8 37 yX6_clear, .instanceMethod yX6_clear, .selects RX6 yX6_clear yX6_clear, .initialized RX6, .code yX6_clear cX6_clear 2 (some .int), .fieldLink RX6 21 "TellingRows$Sequence" "size" "I", .methodLink RX8 41 yX6_size, .instanceMethod yX6_size, .selects RX6 yX6_size yX6_size, .code yX6_size cX6_size 1 (some .int), .methodLink RX8 44 yX6_get, .instanceMethod yX6_get, .selects RX6 yX6_get yX6_get, .code yX6_get cX6_get 2 (some .int), .fieldLink RX6 15 "TellingRows$Sequence" "items" "[I", .methodLink RX8 48 yX6_add, .instanceMethod yX6_add, .selects RX6 yX6_add yX6_add, .code yX6_add cX6_add 2 (some .boolean)] ++ wsX80 ++ wsX60)
def wsX8_mostBacks_r1 : List Cond := [Cond.fieldLink RX8 14 "TellingRows$Speaker" "one" "LTellingRows$Sequence;", Cond.fieldLink RX8 20 "TellingRows$Speaker" "other" "LTellingRows$Sequence;", Cond.methodLink RX8 23 yX6_copy, Cond.instanceMethod yX6_copy, Cond.selects RX6 yX6_copy yX6_copy, Cond.initialized RX6, Cond.code yX6_copy cX6_copy 3 none, Cond.fieldLink RX6 21 "TellingRows$Sequence" "size" "I", Cond.methodLink RX6 25 yX6_get, Cond.instanceMethod yX6_get, Cond.selects RX6 yX6_get yX6_get, Cond.code yX6_get cX6_get 2 (some .int), Cond.fieldLink RX6 15 "TellingRows$Sequence" "items" "[I", Cond.methodLink RX6 29 yX6_add, Cond.instanceMethod yX6_add, Cond.selects RX6 yX6_add yX6_add, Cond.code yX6_add cX6_add 2 (some .boolean), Cond.methodLink RX8 34 yX8_unsay, Cond.static yX8_unsay, Cond.initialized RX8, Cond.code yX8_unsay cX8_unsay 5 (some .boolean), Cond.methodLink RX8 37 yX6_clear, Cond.instanceMethod yX6_clear, Cond.selects RX6 yX6_clear yX6_clear]
def wsX8_mostBacks_r2 : List Cond := [Cond.code yX6_clear cX6_clear 2 (some .int), Cond.methodLink RX8 41 yX6_size, Cond.instanceMethod yX6_size, Cond.selects RX6 yX6_size yX6_size, Cond.code yX6_size cX6_size 1 (some .int), Cond.methodLink RX8 44 yX6_get, Cond.methodLink RX8 48 yX6_add]
def wsX8_mostBacks : List Cond := .code yX8_mostBacks cX8_mostBacks 6 (some .int) :: ((wsX8_mostBacks_r1 ++ wsX8_mostBacks_r2) ++ wsX80 ++ wsX60)
def wsX9_init : List Cond := .code yX9_init cX9_init 1 none :: ([.methodLink RX9 3 objectInit, .instanceMethod objectInit, .code objectInit ⟨#[0xb1]⟩ 1 none, .arrayClass .int, .fieldLink RX9 9 "TellingRows$TellerSearch" "figures" "[I"] ++ wsX90)
def wsX9_answer : List Cond := .code yX9_answer cX9_answer 1 (some .long) :: ([.fieldLink RX9 15 "TellingRows$TellerSearch" "answer" "J"] ++ wsX90)
def wsX9_tells : List Cond := .code yX9_tells cX9_tells 5 (some .boolean) :: ([.fieldLink RX9 9 "TellingRows$TellerSearch" "figures" "[I"] ++ wsX90)
def wsX9_keep : List Cond := .code yX9_keep cX9_keep 3 none :: ([.fieldLink RX9 23 "TellingRows$TellerSearch" "found" "I", .fieldLink RX9 19 "TellingRows$TellerSearch" "wanted" "I", .fieldLink RX9 15 "TellingRows$TellerSearch" "answer" "J", .fieldLink RX9 9 "TellingRows$TellerSearch" "figures" "[I", .constantLong RX9 40 (10)] ++ wsX90)
def wsX9_fill : List Cond := .code yX9_fill cX9_fill 6 none :: ([.fieldLink RX9 9 "TellingRows$TellerSearch" "figures" "[I", .methodLink RX9 32 yX9_tells, .instanceMethod yX9_tells, .selects RX9 yX9_tells yX9_tells, .initialized RX9, .code yX9_tells cX9_tells 5 (some .boolean), .methodLink RX9 36 yX9_keep, .instanceMethod yX9_keep, .selects RX9 yX9_keep yX9_keep, .code yX9_keep cX9_keep 3 none, .fieldLink RX9 23 "TellingRows$TellerSearch" "found" "I", .fieldLink RX9 19 "TellingRows$TellerSearch" "wanted" "I", .fieldLink RX9 15 "TellingRows$TellerSearch" "answer" "J", .constantLong RX9 40 (10), .methodLink RX9 28 yX9_fill, .static yX9_fill] ++ wsX90)
def wsX9_search : List Cond := .code yX9_search cX9_search 3 (some .int) :: ([.fieldLink RX9 19 "TellingRows$TellerSearch" "wanted" "I", .fieldLink RX9 23 "TellingRows$TellerSearch" "found" "I", .constantLong RX9 26 (-4), .fieldLink RX9 15 "TellingRows$TellerSearch" "answer" "J", .methodLink RX9 28 yX9_fill, .static yX9_fill, .initialized RX9, .code yX9_fill cX9_fill 6 none, .fieldLink RX9 9 "TellingRows$TellerSearch" "figures" "[I", .methodLink RX9 32 yX9_tells, .instanceMethod yX9_tells, .selects RX9 yX9_tells yX9_tells, .code yX9_tells cX9_tells 5 (some .boolean), .methodLink RX9 36 yX9_keep, .instanceMethod yX9_keep, .selects RX9 yX9_keep yX9_keep, .code yX9_keep cX9_keep 3 none, .constantLong RX9 40 (10)] ++ wsX90)
def wsX10_init_r1 : List Cond := [Cond.methodLink RX10 1 objectInit, Cond.instanceMethod objectInit, Cond.code objectInit ⟨#[0xb1]⟩ 1 none, Cond.classLink RX10 9 RX5, Cond.fieldLink RX10 11 "TellingRows" "registers" "[LTellingRows$Row;", Cond.classLink RX10 15 RX3, Cond.instantiable RX3 1, Cond.initialized RX3, Cond.fieldLink RX10 18 "TellingRows" "marks" "LTellingRows$Marks;", Cond.classLink RX10 22 RX2, Cond.instantiable RX2 2, Cond.initialized RX2, Cond.fieldLink RX10 27 "TellingRows" "maker" "LTellingRows$Maker;", Cond.classLink RX10 31 RX6, Cond.instantiable RX6 2, Cond.initialized RX6, Cond.fieldLink RX10 36 "TellingRows" "text" "LTellingRows$Sequence;", Cond.classLink RX10 40 RX1, Cond.instantiable RX1 3, Cond.initialized RX1, Cond.fieldLink RX10 43 "TellingRows" "item" "LTellingRows$Item;", Cond.fieldLink RX10 47 "TellingRows" "numbers" "LTellingRows$Sequence;", Cond.fieldLink RX10 50 "TellingRows" "figures" "LTellingRows$Sequence;", Cond.classLink RX10 53 RX8]
def wsX10_init_r2 : List Cond := [Cond.instantiable RX8 2, Cond.initialized RX8, Cond.fieldLink RX10 56 "TellingRows" "speaker" "LTellingRows$Speaker;", Cond.classLink RX10 60 RX4, Cond.instantiable RX4 3, Cond.initialized RX4, Cond.fieldLink RX10 63 "TellingRows" "rounds" "LTellingRows$Rounds;", Cond.classLink RX10 67 RX9, Cond.instantiable RX9 4, Cond.initialized RX9, Cond.fieldLink RX10 70 "TellingRows" "tellerSearch" "LTellingRows$TellerSearch;", Cond.instantiable RX5 5, Cond.initialized RX5, Cond.instanceMethod yX3_init, Cond.code yX3_init cX3_init 1 none, Cond.methodLink RX3 3 objectInit, Cond.constant RX3 9 (60001), Cond.arrayClass .int, Cond.fieldLink RX3 10 "TellingRows$Marks" "marks" "[I", Cond.methodLink RX10 24 yX2_init, Cond.instanceMethod yX2_init, Cond.code yX2_init cX2_init 2 none, Cond.methodLink RX2 3 objectInit, Cond.fieldLink RX2 9 "TellingRows$Maker" "alike" "[I"]
def wsX10_init_r3 : List Cond := [Cond.fieldLink RX2 15 "TellingRows$Maker" "marks" "LTellingRows$Marks;", Cond.methodLink RX10 33 yX6_init, Cond.instanceMethod yX6_init, Cond.code yX6_init cX6_init 2 none, Cond.methodLink RX6 3 objectInit, Cond.methodLink RX6 9 Lib.Math.max.name, Cond.static Lib.Math.max.name, Cond.initialized "java/lang/Math", Cond.code Lib.Math.max.name Lib.Math.max.code 2 (some .int), Cond.fieldLink RX6 15 "TellingRows$Sequence" "items" "[I", Cond.instanceMethod yX1_init, Cond.code yX1_init cX1_init 1 none, Cond.methodLink RX1 3 objectInit, Cond.classLink RX1 9 RX6, Cond.fieldLink RX1 14 "TellingRows$Item" "read" "LTellingRows$Sequence;", Cond.fieldLink RX1 20 "TellingRows$Item" "beginnings" "LTellingRows$Sequence;", Cond.methodLink RX1 11 yX6_init, Cond.instanceMethod yX8_init, Cond.code yX8_init cX8_init 1 none, Cond.methodLink RX8 3 objectInit, Cond.classLink RX8 9 RX6, Cond.fieldLink RX8 14 "TellingRows$Speaker" "one" "LTellingRows$Sequence;", Cond.fieldLink RX8 20 "TellingRows$Speaker" "other" "LTellingRows$Sequence;", Cond.methodLink RX8 11 yX6_init]
def wsX10_init_r4 : List Cond := [Cond.methodLink RX10 62 yX4_init, Cond.instanceMethod yX4_init, Cond.code yX4_init cX4_init 2 none, Cond.methodLink RX4 3 objectInit, Cond.classLink RX4 9 RX6, Cond.fieldLink RX4 11 "TellingRows$Rounds" "steps" "[LTellingRows$Sequence;", Cond.methodLink RX4 17 yX6_init, Cond.instanceMethod yX9_init, Cond.code yX9_init cX9_init 1 none, Cond.methodLink RX9 3 objectInit, Cond.fieldLink RX9 9 "TellingRows$TellerSearch" "figures" "[I", Cond.methodLink RX10 74 yX5_init, Cond.instanceMethod yX5_init, Cond.code yX5_init cX5_init 1 none, Cond.methodLink RX5 3 objectInit, Cond.classLink RX5 9 RX6, Cond.fieldLink RX5 14 "TellingRows$Row" "beginnings" "LTellingRows$Sequence;", Cond.fieldLink RX5 20 "TellingRows$Row" "numbers" "[I", Cond.fieldLink RX5 24 "TellingRows$Sort" "REACH" "LTellingRows$Sort;", Cond.fieldLink RX5 30 "TellingRows$Row" "sort" "LTellingRows$Sort;", Cond.methodLink RX5 11 yX6_init, Cond.methodLink RX5 33 yX6_add, Cond.instanceMethod yX6_add, Cond.selects RX6 yX6_add yX6_add]
def wsX10_init_r5 : List Cond := [Cond.code yX6_add cX6_add 2 (some .boolean), Cond.fieldLink RX6 21 "TellingRows$Sequence" "size" "I"]
def wsX10_init : List Cond := .code yX10_init cX10_init 2 none :: ((wsX10_init_r1 ++ (wsX10_init_r2 ++ (wsX10_init_r3 ++ (wsX10_init_r4 ++ wsX10_init_r5)))) ++ wsX100 ++ wsX30 ++ wsX20 ++ wsX60 ++ wsX10 ++ wsX80 ++ wsX40 ++ wsX90 ++ wsX50)
def wsX10_write : List Cond := .code yX10_write cX10_write 5 (some .int) :: ([.fieldLink RX10 36 "TellingRows" "text" "LTellingRows$Sequence;", .methodLink RX10 75 yX6_size, .instanceMethod yX6_size, .selects RX6 yX6_size yX6_size, .initialized RX6, .code yX6_size cX6_size 1 (some .int), .fieldLink RX6 21 "TellingRows$Sequence" "size" "I", .methodLink RX10 79 yX6_add, .instanceMethod yX6_add, .selects RX6 yX6_add yX6_add, .code yX6_add cX6_add 2 (some .boolean), .fieldLink RX6 15 "TellingRows$Sequence" "items" "[I"] ++ wsX100 ++ wsX60)
def wsX10_wipe : List Cond := .code yX10_wipe cX10_wipe 1 (some .int) :: ([.fieldLink RX10 36 "TellingRows" "text" "LTellingRows$Sequence;", .methodLink RX10 83 yX6_clear, .instanceMethod yX6_clear, .selects RX6 yX6_clear yX6_clear, .initialized RX6, .code yX6_clear cX6_clear 2 (some .int), .fieldLink RX6 21 "TellingRows$Sequence" "size" "I"] ++ wsX100 ++ wsX60)
def wsX10_fault_r1 : List Cond := [Cond.fieldLink RX10 36 "TellingRows" "text" "LTellingRows$Sequence;", Cond.fieldLink RX10 43 "TellingRows" "item" "LTellingRows$Item;", Cond.methodLink RX10 75 yX6_size, Cond.instanceMethod yX6_size, Cond.selects RX6 yX6_size yX6_size, Cond.initialized RX6, Cond.code yX6_size cX6_size 1 (some .int), Cond.fieldLink RX6 21 "TellingRows$Sequence" "size" "I", Cond.methodLink RX10 86 yX1_standsAt, Cond.instanceMethod yX1_standsAt, Cond.selects RX1 yX1_standsAt yX1_standsAt, Cond.initialized RX1, Cond.code yX1_standsAt cX1_standsAt 4 (some .boolean), Cond.fieldLink RX1 20 "TellingRows$Item" "beginnings" "LTellingRows$Sequence;", Cond.fieldLink RX1 14 "TellingRows$Item" "read" "LTellingRows$Sequence;", Cond.methodLink RX1 35 yX1_readsNumbers, Cond.instanceMethod yX1_readsNumbers, Cond.selects RX1 yX1_readsNumbers yX1_readsNumbers, Cond.code yX1_readsNumbers cX1_readsNumbers 7 (some .boolean), Cond.fieldLink RX1 23 "TellingRows$Item" "end" "I", Cond.methodLink RX1 43 yX6_clear, Cond.instanceMethod yX6_clear, Cond.selects RX6 yX6_clear yX6_clear, Cond.code yX6_clear cX6_clear 2 (some .int)]
def wsX10_fault_r2 : List Cond := [Cond.methodLink RX1 27 yX6_get, Cond.instanceMethod yX6_get, Cond.selects RX6 yX6_get yX6_get, Cond.code yX6_get cX6_get 2 (some .int), Cond.fieldLink RX6 15 "TellingRows$Sequence" "items" "[I", Cond.methodLink RX1 46 yX6_size, Cond.methodLink RX1 49 yX6_add, Cond.instanceMethod yX6_add, Cond.selects RX6 yX6_add yX6_add, Cond.code yX6_add cX6_add 2 (some .boolean), Cond.methodLink RX1 39 yX1_register, Cond.instanceMethod yX1_register, Cond.selects RX1 yX1_register yX1_register, Cond.code yX1_register cX1_register 1 (some .int), Cond.methodLink RX1 53 yX1_sort, Cond.instanceMethod yX1_sort, Cond.selects RX1 yX1_sort yX1_sort, Cond.code yX1_sort cX1_sort 2 (some (.object "TellingRows$Sort")), Cond.methodLink RX1 57 yX7_allows, Cond.instanceMethod yX7_allows, Cond.selects RX7 yX7_allows yX7_allows, Cond.initialized RX7, Cond.code yX7_allows cX7_allows 3 (some .boolean), Cond.fieldLink RX7 48 "TellingRows$Sort" "fewest" "I"]
def wsX10_fault_r3 : List Cond := [Cond.fieldLink RX7 51 "TellingRows$Sort" "most" "I", Cond.fieldLink RX7 54 "TellingRows$Sort" "lowest" "I", Cond.fieldLink RX7 57 "TellingRows$Sort" "highest" "I", Cond.fieldLink RX7 16 "TellingRows$Sort" "SUMS" "LTellingRows$Sort;", Cond.methodLink RX7 60 yX6_size, Cond.methodLink RX7 66 yX6_get, Cond.methodLink RX10 90 yX1_end, Cond.instanceMethod yX1_end, Cond.selects RX1 yX1_end yX1_end, Cond.code yX1_end cX1_end 1 (some .int)]
def wsX10_fault : List Cond := .code yX10_fault cX10_fault 3 (some .int) :: ((wsX10_fault_r1 ++ (wsX10_fault_r2 ++ wsX10_fault_r3)) ++ wsX100 ++ wsX60 ++ wsX10)
def wsX10_registerOf : List Cond := .code yX10_registerOf cX10_registerOf 2 (some (.object "TellingRows$Row")) :: ([.fieldLink RX10 11 "TellingRows" "registers" "[LTellingRows$Row;"] ++ wsX100)
def wsX10_lay_r1 : List Cond := [Cond.fieldLink RX10 36 "TellingRows" "text" "LTellingRows$Sequence;", Cond.fieldLink RX10 43 "TellingRows" "item" "LTellingRows$Item;", Cond.methodLink RX10 93 yX10_fault, Cond.instanceMethod yX10_fault, Cond.selects RX10 yX10_fault yX10_fault, Cond.initialized RX10, Cond.code yX10_fault cX10_fault 3 (some .int), Cond.methodLink RX10 75 yX6_size, Cond.instanceMethod yX6_size, Cond.selects RX6 yX6_size yX6_size, Cond.initialized RX6, Cond.code yX6_size cX6_size 1 (some .int), Cond.fieldLink RX6 21 "TellingRows$Sequence" "size" "I", Cond.methodLink RX10 86 yX1_standsAt, Cond.instanceMethod yX1_standsAt, Cond.selects RX1 yX1_standsAt yX1_standsAt, Cond.initialized RX1, Cond.code yX1_standsAt cX1_standsAt 4 (some .boolean), Cond.fieldLink RX1 20 "TellingRows$Item" "beginnings" "LTellingRows$Sequence;", Cond.fieldLink RX1 14 "TellingRows$Item" "read" "LTellingRows$Sequence;", Cond.methodLink RX1 35 yX1_readsNumbers, Cond.instanceMethod yX1_readsNumbers, Cond.selects RX1 yX1_readsNumbers yX1_readsNumbers, Cond.code yX1_readsNumbers cX1_readsNumbers 7 (some .boolean)]
def wsX10_lay_r2 : List Cond := [Cond.fieldLink RX1 23 "TellingRows$Item" "end" "I", Cond.methodLink RX1 43 yX6_clear, Cond.instanceMethod yX6_clear, Cond.selects RX6 yX6_clear yX6_clear, Cond.code yX6_clear cX6_clear 2 (some .int), Cond.methodLink RX1 27 yX6_get, Cond.instanceMethod yX6_get, Cond.selects RX6 yX6_get yX6_get, Cond.code yX6_get cX6_get 2 (some .int), Cond.fieldLink RX6 15 "TellingRows$Sequence" "items" "[I", Cond.methodLink RX1 46 yX6_size, Cond.methodLink RX1 49 yX6_add, Cond.instanceMethod yX6_add, Cond.selects RX6 yX6_add yX6_add, Cond.code yX6_add cX6_add 2 (some .boolean), Cond.methodLink RX1 39 yX1_register, Cond.instanceMethod yX1_register, Cond.selects RX1 yX1_register yX1_register, Cond.code yX1_register cX1_register 1 (some .int), Cond.methodLink RX1 53 yX1_sort, Cond.instanceMethod yX1_sort, Cond.selects RX1 yX1_sort yX1_sort, Cond.code yX1_sort cX1_sort 2 (some (.object "TellingRows$Sort")), Cond.methodLink RX1 57 yX7_allows]
def wsX10_lay_r3 : List Cond := [Cond.instanceMethod yX7_allows, Cond.selects RX7 yX7_allows yX7_allows, Cond.initialized RX7, Cond.code yX7_allows cX7_allows 3 (some .boolean), Cond.fieldLink RX7 48 "TellingRows$Sort" "fewest" "I", Cond.fieldLink RX7 51 "TellingRows$Sort" "most" "I", Cond.fieldLink RX7 54 "TellingRows$Sort" "lowest" "I", Cond.fieldLink RX7 57 "TellingRows$Sort" "highest" "I", Cond.fieldLink RX7 16 "TellingRows$Sort" "SUMS" "LTellingRows$Sort;", Cond.methodLink RX7 60 yX6_size, Cond.methodLink RX7 66 yX6_get, Cond.methodLink RX10 90 yX1_end, Cond.instanceMethod yX1_end, Cond.selects RX1 yX1_end yX1_end, Cond.code yX1_end cX1_end 1 (some .int), Cond.methodLink RX10 96 yX1_register, Cond.methodLink RX10 99 yX10_registerOf, Cond.instanceMethod yX10_registerOf, Cond.selects RX10 yX10_registerOf yX10_registerOf, Cond.code yX10_registerOf cX10_registerOf 2 (some (.object "TellingRows$Row")), Cond.fieldLink RX10 11 "TellingRows" "registers" "[LTellingRows$Row;", Cond.methodLink RX10 103 yX5_become, Cond.instanceMethod yX5_become, Cond.selects RX5 yX5_become yX5_become]
def wsX10_lay_r4 : List Cond := [Cond.initialized RX5, Cond.code yX5_become cX5_become 3 none, Cond.fieldLink RX5 30 "TellingRows$Row" "sort" "LTellingRows$Sort;", Cond.fieldLink RX5 14 "TellingRows$Row" "beginnings" "LTellingRows$Sequence;", Cond.fieldLink RX5 47 "TellingRows$Row" "made" "Z", Cond.methodLink RX5 37 yX1_sort, Cond.methodLink RX5 43 yX6_copy, Cond.instanceMethod yX6_copy, Cond.selects RX6 yX6_copy yX6_copy, Cond.code yX6_copy cX6_copy 3 none, Cond.methodLink RX6 25 yX6_get, Cond.methodLink RX6 29 yX6_add]
def wsX10_lay : List Cond := .code yX10_lay cX10_lay 4 (some .int) :: ((wsX10_lay_r1 ++ (wsX10_lay_r2 ++ (wsX10_lay_r3 ++ wsX10_lay_r4))) ++ wsX100 ++ wsX60 ++ wsX10 ++ wsX50)
def wsX10_told : List Cond := .code yX10_told cX10_told 4 (some .int) :: ([.methodLink RX10 99 yX10_registerOf, .instanceMethod yX10_registerOf, .selects RX10 yX10_registerOf yX10_registerOf, .initialized RX10, .code yX10_registerOf cX10_registerOf 2 (some (.object "TellingRows$Row")), .fieldLink RX10 11 "TellingRows" "registers" "[LTellingRows$Row;", .methodLink RX10 75 yX6_size, .instanceMethod yX6_size, .selects RX6 yX6_size yX6_size, .initialized RX6, .code yX6_size cX6_size 1 (some .int), .fieldLink RX6 21 "TellingRows$Sequence" "size" "I", .methodLink RX10 120 yX6_get, .instanceMethod yX6_get, .selects RX6 yX6_get yX6_get, .code yX6_get cX6_get 2 (some .int), .fieldLink RX6 15 "TellingRows$Sequence" "items" "[I"] ++ wsX50 ++ wsX100 ++ wsX60)
def wsX10_madeRow_r1 : List Cond := [Cond.fieldLink RX10 27 "TellingRows" "maker" "LTellingRows$Maker;", Cond.methodLink RX10 99 yX10_registerOf, Cond.instanceMethod yX10_registerOf, Cond.selects RX10 yX10_registerOf yX10_registerOf, Cond.initialized RX10, Cond.code yX10_registerOf cX10_registerOf 2 (some (.object "TellingRows$Row")), Cond.fieldLink RX10 11 "TellingRows" "registers" "[LTellingRows$Row;", Cond.methodLink RX10 206 yX2_make, Cond.instanceMethod yX2_make, Cond.selects RX2 yX2_make yX2_make, Cond.initialized RX2, Cond.code yX2_make cX2_make 6 none, Cond.fieldLink RX2 15 "TellingRows$Maker" "marks" "LTellingRows$Marks;", Cond.fieldLink RX2 9 "TellingRows$Maker" "alike" "[I", Cond.methodLink RX2 19 yX3_clear, Cond.instanceMethod yX3_clear, Cond.selects RX3 yX3_clear yX3_clear, Cond.initialized RX3, Cond.code yX3_clear cX3_clear 1 none, Cond.fieldLink RX3 10 "TellingRows$Marks" "marks" "[I", Cond.methodLink RX3 16 yJ7_fill_53178, Cond.static yJ7_fill_53178, Cond.initialized RJ7, Cond.code yJ7_fill_53178 cJ7_fill_53178 4 none]
def wsX10_madeRow_r2 : List Cond := [Cond.methodLink RX2 24 yJ7_fill_53178, Cond.methodLink RX2 39 yX2_due, Cond.instanceMethod yX2_due, Cond.selects RX2 yX2_due yX2_due, Cond.code yX2_due cX2_due 4 (some .int), Cond.fieldLink RX2 69 "TellingRows$1" "$SwitchMap$TellingRows$Sort" "[I", Cond.methodLink RX2 74 ⟨"TellingRows$Sort", "ordinal", "()I"⟩, Cond.sameMethod "TellingRows$Sort" "java/lang/Enum" "ordinal" "()I", Cond.selects RX7 ⟨"TellingRows$Sort", "ordinal", "()I"⟩ yJx29ce0_ordinal_8abf5, Cond.instanceMethod yJx29ce0_ordinal_8abf5, Cond.initialized RJx29ce0, Cond.code yJx29ce0_ordinal_8abf5 cJx29ce0_ordinal_8abf5 1 (some .int), Cond.fieldLink RJx29ce0 7 "java/lang/Enum" "ordinal" "I", Cond.methodLink RX2 79 yX2_reach, Cond.instanceMethod yX2_reach, Cond.selects RX2 yX2_reach yX2_reach, Cond.code yX2_reach cX2_reach 6 (some .int), Cond.methodLink RX2 83 yX2_fold, Cond.instanceMethod yX2_fold, Cond.selects RX2 yX2_fold yX2_fold, Cond.code yX2_fold cX2_fold 4 (some .int), Cond.methodLink RX2 86 yX2_back, Cond.instanceMethod yX2_back, Cond.selects RX2 yX2_back yX2_back]
def wsX10_madeRow_r3 : List Cond := [Cond.code yX2_back cX2_back 4 (some .int), Cond.methodLink RX2 102 yX3_of, Cond.instanceMethod yX3_of, Cond.selects RX3 yX3_of yX3_of, Cond.code yX3_of cX3_of 2 (some .int), Cond.methodLink RX2 105 yX3_put, Cond.instanceMethod yX3_put, Cond.selects RX3 yX3_put yX3_put, Cond.code yX3_put cX3_put 3 none, Cond.methodLink RX2 90 yX2_again, Cond.instanceMethod yX2_again, Cond.selects RX2 yX2_again yX2_again, Cond.code yX2_again cX2_again 5 (some .int), Cond.methodLink RX2 109 Lib.Math.max.name, Cond.static Lib.Math.max.name, Cond.initialized "java/lang/Math", Cond.code Lib.Math.max.name Lib.Math.max.code 2 (some .int), Cond.methodLink RX2 93 yX2_sum, Cond.instanceMethod yX2_sum, Cond.selects RX2 yX2_sum yX2_sum, Cond.code yX2_sum cX2_sum 5 (some .int), Cond.constant RX2 118 (60000), Cond.methodLink RX2 114 yX3_raise, Cond.instanceMethod yX3_raise]
def wsX10_madeRow_r4 : List Cond := [Cond.selects RX3 yX3_raise yX3_raise, Cond.code yX3_raise cX3_raise 2 none, Cond.methodLink RX2 96 yX2_soFar, Cond.instanceMethod yX2_soFar, Cond.selects RX2 yX2_soFar yX2_soFar, Cond.code yX2_soFar cX2_soFar 2 (some .int), Cond.methodLink RX2 99 yX2_free, Cond.instanceMethod yX2_free, Cond.selects RX2 yX2_free yX2_free, Cond.code yX2_free cX2_free 4 (some .int), Cond.methodLink RX2 47 yX6_size, Cond.instanceMethod yX6_size, Cond.selects RX6 yX6_size yX6_size, Cond.initialized RX6, Cond.code yX6_size cX6_size 1 (some .int), Cond.fieldLink RX6 21 "TellingRows$Sequence" "size" "I", Cond.methodLink RX2 53 yX6_get, Cond.instanceMethod yX6_get, Cond.selects RX6 yX6_get yX6_get, Cond.code yX6_get cX6_get 2 (some .int), Cond.fieldLink RX6 15 "TellingRows$Sequence" "items" "[I", Cond.static yX10_isNumber, Cond.code yX10_isNumber cX10_isNumber 1 (some .boolean), Cond.constant RX10 201 (60000)]
def wsX10_madeRow : List Cond := .code yX10_madeRow cX10_madeRow 3 (some (.object "TellingRows$Row")) :: ((wsX10_madeRow_r1 ++ (wsX10_madeRow_r2 ++ (wsX10_madeRow_r3 ++ wsX10_madeRow_r4))) ++ wsX50 ++ wsX100 ++ wsX20 ++ wsX30 ++ wsX60)
def wsX10_at_r1 : List Cond := [Cond.methodLink RX10 124 yX10_madeRow, Cond.instanceMethod yX10_madeRow, Cond.selects RX10 yX10_madeRow yX10_madeRow, Cond.initialized RX10, Cond.code yX10_madeRow cX10_madeRow 3 (some (.object "TellingRows$Row")), Cond.fieldLink RX10 27 "TellingRows" "maker" "LTellingRows$Maker;", Cond.methodLink RX10 99 yX10_registerOf, Cond.instanceMethod yX10_registerOf, Cond.selects RX10 yX10_registerOf yX10_registerOf, Cond.code yX10_registerOf cX10_registerOf 2 (some (.object "TellingRows$Row")), Cond.fieldLink RX10 11 "TellingRows" "registers" "[LTellingRows$Row;", Cond.methodLink RX10 206 yX2_make, Cond.instanceMethod yX2_make, Cond.selects RX2 yX2_make yX2_make, Cond.initialized RX2, Cond.code yX2_make cX2_make 6 none, Cond.fieldLink RX2 15 "TellingRows$Maker" "marks" "LTellingRows$Marks;", Cond.fieldLink RX2 9 "TellingRows$Maker" "alike" "[I", Cond.methodLink RX2 19 yX3_clear, Cond.instanceMethod yX3_clear, Cond.selects RX3 yX3_clear yX3_clear, Cond.initialized RX3, Cond.code yX3_clear cX3_clear 1 none, Cond.fieldLink RX3 10 "TellingRows$Marks" "marks" "[I"]
def wsX10_at_r2 : List Cond := [Cond.methodLink RX3 16 yJ7_fill_53178, Cond.static yJ7_fill_53178, Cond.initialized RJ7, Cond.code yJ7_fill_53178 cJ7_fill_53178 4 none, Cond.methodLink RX2 24 yJ7_fill_53178, Cond.methodLink RX2 39 yX2_due, Cond.instanceMethod yX2_due, Cond.selects RX2 yX2_due yX2_due, Cond.code yX2_due cX2_due 4 (some .int), Cond.fieldLink RX2 69 "TellingRows$1" "$SwitchMap$TellingRows$Sort" "[I", Cond.methodLink RX2 74 ⟨"TellingRows$Sort", "ordinal", "()I"⟩, Cond.sameMethod "TellingRows$Sort" "java/lang/Enum" "ordinal" "()I", Cond.selects RX7 ⟨"TellingRows$Sort", "ordinal", "()I"⟩ yJx29ce0_ordinal_8abf5, Cond.instanceMethod yJx29ce0_ordinal_8abf5, Cond.initialized RJx29ce0, Cond.code yJx29ce0_ordinal_8abf5 cJx29ce0_ordinal_8abf5 1 (some .int), Cond.fieldLink RJx29ce0 7 "java/lang/Enum" "ordinal" "I", Cond.methodLink RX2 79 yX2_reach, Cond.instanceMethod yX2_reach, Cond.selects RX2 yX2_reach yX2_reach, Cond.code yX2_reach cX2_reach 6 (some .int), Cond.methodLink RX2 83 yX2_fold, Cond.instanceMethod yX2_fold, Cond.selects RX2 yX2_fold yX2_fold]
def wsX10_at_r3 : List Cond := [Cond.code yX2_fold cX2_fold 4 (some .int), Cond.methodLink RX2 86 yX2_back, Cond.instanceMethod yX2_back, Cond.selects RX2 yX2_back yX2_back, Cond.code yX2_back cX2_back 4 (some .int), Cond.methodLink RX2 102 yX3_of, Cond.instanceMethod yX3_of, Cond.selects RX3 yX3_of yX3_of, Cond.code yX3_of cX3_of 2 (some .int), Cond.methodLink RX2 105 yX3_put, Cond.instanceMethod yX3_put, Cond.selects RX3 yX3_put yX3_put, Cond.code yX3_put cX3_put 3 none, Cond.methodLink RX2 90 yX2_again, Cond.instanceMethod yX2_again, Cond.selects RX2 yX2_again yX2_again, Cond.code yX2_again cX2_again 5 (some .int), Cond.methodLink RX2 109 Lib.Math.max.name, Cond.static Lib.Math.max.name, Cond.initialized "java/lang/Math", Cond.code Lib.Math.max.name Lib.Math.max.code 2 (some .int), Cond.methodLink RX2 93 yX2_sum, Cond.instanceMethod yX2_sum, Cond.selects RX2 yX2_sum yX2_sum]
def wsX10_at_r4 : List Cond := [Cond.code yX2_sum cX2_sum 5 (some .int), Cond.constant RX2 118 (60000), Cond.methodLink RX2 114 yX3_raise, Cond.instanceMethod yX3_raise, Cond.selects RX3 yX3_raise yX3_raise, Cond.code yX3_raise cX3_raise 2 none, Cond.methodLink RX2 96 yX2_soFar, Cond.instanceMethod yX2_soFar, Cond.selects RX2 yX2_soFar yX2_soFar, Cond.code yX2_soFar cX2_soFar 2 (some .int), Cond.methodLink RX2 99 yX2_free, Cond.instanceMethod yX2_free, Cond.selects RX2 yX2_free yX2_free, Cond.code yX2_free cX2_free 4 (some .int), Cond.methodLink RX2 47 yX6_size, Cond.instanceMethod yX6_size, Cond.selects RX6 yX6_size yX6_size, Cond.initialized RX6, Cond.code yX6_size cX6_size 1 (some .int), Cond.fieldLink RX6 21 "TellingRows$Sequence" "size" "I", Cond.methodLink RX2 53 yX6_get, Cond.instanceMethod yX6_get, Cond.selects RX6 yX6_get yX6_get, Cond.code yX6_get cX6_get 2 (some .int)]
def wsX10_at_r5 : List Cond := [Cond.fieldLink RX6 15 "TellingRows$Sequence" "items" "[I", Cond.static yX10_isNumber, Cond.code yX10_isNumber cX10_isNumber 1 (some .boolean), Cond.constant RX10 201 (60000), Cond.methodLink RX10 127 yX5_numberAt, Cond.instanceMethod yX5_numberAt, Cond.selects RX5 yX5_numberAt yX5_numberAt, Cond.initialized RX5, Cond.code yX5_numberAt cX5_numberAt 2 (some .int), Cond.fieldLink RX5 51 "TellingRows$Row" "length" "I", Cond.fieldLink RX5 20 "TellingRows$Row" "numbers" "[I"]
def wsX10_at : List Cond := .code yX10_at cX10_at 4 (some .int) :: ((wsX10_at_r1 ++ (wsX10_at_r2 ++ (wsX10_at_r3 ++ (wsX10_at_r4 ++ wsX10_at_r5)))) ++ wsX50 ++ wsX100 ++ wsX20 ++ wsX30 ++ wsX60)
def wsX10_first_r1 : List Cond := [Cond.methodLink RX10 124 yX10_madeRow, Cond.instanceMethod yX10_madeRow, Cond.selects RX10 yX10_madeRow yX10_madeRow, Cond.initialized RX10, Cond.code yX10_madeRow cX10_madeRow 3 (some (.object "TellingRows$Row")), Cond.fieldLink RX10 27 "TellingRows" "maker" "LTellingRows$Maker;", Cond.methodLink RX10 99 yX10_registerOf, Cond.instanceMethod yX10_registerOf, Cond.selects RX10 yX10_registerOf yX10_registerOf, Cond.code yX10_registerOf cX10_registerOf 2 (some (.object "TellingRows$Row")), Cond.fieldLink RX10 11 "TellingRows" "registers" "[LTellingRows$Row;", Cond.methodLink RX10 206 yX2_make, Cond.instanceMethod yX2_make, Cond.selects RX2 yX2_make yX2_make, Cond.initialized RX2, Cond.code yX2_make cX2_make 6 none, Cond.fieldLink RX2 15 "TellingRows$Maker" "marks" "LTellingRows$Marks;", Cond.fieldLink RX2 9 "TellingRows$Maker" "alike" "[I", Cond.methodLink RX2 19 yX3_clear, Cond.instanceMethod yX3_clear, Cond.selects RX3 yX3_clear yX3_clear, Cond.initialized RX3, Cond.code yX3_clear cX3_clear 1 none, Cond.fieldLink RX3 10 "TellingRows$Marks" "marks" "[I"]
def wsX10_first_r2 : List Cond := [Cond.methodLink RX3 16 yJ7_fill_53178, Cond.static yJ7_fill_53178, Cond.initialized RJ7, Cond.code yJ7_fill_53178 cJ7_fill_53178 4 none, Cond.methodLink RX2 24 yJ7_fill_53178, Cond.methodLink RX2 39 yX2_due, Cond.instanceMethod yX2_due, Cond.selects RX2 yX2_due yX2_due, Cond.code yX2_due cX2_due 4 (some .int), Cond.fieldLink RX2 69 "TellingRows$1" "$SwitchMap$TellingRows$Sort" "[I", Cond.methodLink RX2 74 ⟨"TellingRows$Sort", "ordinal", "()I"⟩, Cond.sameMethod "TellingRows$Sort" "java/lang/Enum" "ordinal" "()I", Cond.selects RX7 ⟨"TellingRows$Sort", "ordinal", "()I"⟩ yJx29ce0_ordinal_8abf5, Cond.instanceMethod yJx29ce0_ordinal_8abf5, Cond.initialized RJx29ce0, Cond.code yJx29ce0_ordinal_8abf5 cJx29ce0_ordinal_8abf5 1 (some .int), Cond.fieldLink RJx29ce0 7 "java/lang/Enum" "ordinal" "I", Cond.methodLink RX2 79 yX2_reach, Cond.instanceMethod yX2_reach, Cond.selects RX2 yX2_reach yX2_reach, Cond.code yX2_reach cX2_reach 6 (some .int), Cond.methodLink RX2 83 yX2_fold, Cond.instanceMethod yX2_fold, Cond.selects RX2 yX2_fold yX2_fold]
def wsX10_first_r3 : List Cond := [Cond.code yX2_fold cX2_fold 4 (some .int), Cond.methodLink RX2 86 yX2_back, Cond.instanceMethod yX2_back, Cond.selects RX2 yX2_back yX2_back, Cond.code yX2_back cX2_back 4 (some .int), Cond.methodLink RX2 102 yX3_of, Cond.instanceMethod yX3_of, Cond.selects RX3 yX3_of yX3_of, Cond.code yX3_of cX3_of 2 (some .int), Cond.methodLink RX2 105 yX3_put, Cond.instanceMethod yX3_put, Cond.selects RX3 yX3_put yX3_put, Cond.code yX3_put cX3_put 3 none, Cond.methodLink RX2 90 yX2_again, Cond.instanceMethod yX2_again, Cond.selects RX2 yX2_again yX2_again, Cond.code yX2_again cX2_again 5 (some .int), Cond.methodLink RX2 109 Lib.Math.max.name, Cond.static Lib.Math.max.name, Cond.initialized "java/lang/Math", Cond.code Lib.Math.max.name Lib.Math.max.code 2 (some .int), Cond.methodLink RX2 93 yX2_sum, Cond.instanceMethod yX2_sum, Cond.selects RX2 yX2_sum yX2_sum]
def wsX10_first_r4 : List Cond := [Cond.code yX2_sum cX2_sum 5 (some .int), Cond.constant RX2 118 (60000), Cond.methodLink RX2 114 yX3_raise, Cond.instanceMethod yX3_raise, Cond.selects RX3 yX3_raise yX3_raise, Cond.code yX3_raise cX3_raise 2 none, Cond.methodLink RX2 96 yX2_soFar, Cond.instanceMethod yX2_soFar, Cond.selects RX2 yX2_soFar yX2_soFar, Cond.code yX2_soFar cX2_soFar 2 (some .int), Cond.methodLink RX2 99 yX2_free, Cond.instanceMethod yX2_free, Cond.selects RX2 yX2_free yX2_free, Cond.code yX2_free cX2_free 4 (some .int), Cond.methodLink RX2 47 yX6_size, Cond.instanceMethod yX6_size, Cond.selects RX6 yX6_size yX6_size, Cond.initialized RX6, Cond.code yX6_size cX6_size 1 (some .int), Cond.fieldLink RX6 21 "TellingRows$Sequence" "size" "I", Cond.methodLink RX2 53 yX6_get, Cond.instanceMethod yX6_get, Cond.selects RX6 yX6_get yX6_get, Cond.code yX6_get cX6_get 2 (some .int)]
def wsX10_first_r5 : List Cond := [Cond.fieldLink RX6 15 "TellingRows$Sequence" "items" "[I", Cond.static yX10_isNumber, Cond.code yX10_isNumber cX10_isNumber 1 (some .boolean), Cond.constant RX10 201 (60000), Cond.methodLink RX10 130 yX10_isNumber, Cond.methodLink RX10 133 yX5_placeOf, Cond.instanceMethod yX5_placeOf, Cond.selects RX5 yX5_placeOf yX5_placeOf, Cond.initialized RX5, Cond.code yX5_placeOf cX5_placeOf 3 (some .int), Cond.fieldLink RX5 51 "TellingRows$Row" "length" "I", Cond.methodLink RX5 55 yX5_numberAt, Cond.instanceMethod yX5_numberAt, Cond.selects RX5 yX5_numberAt yX5_numberAt, Cond.code yX5_numberAt cX5_numberAt 2 (some .int), Cond.fieldLink RX5 20 "TellingRows$Row" "numbers" "[I"]
def wsX10_first : List Cond := .code yX10_first cX10_first 4 (some .int) :: ((wsX10_first_r1 ++ (wsX10_first_r2 ++ (wsX10_first_r3 ++ (wsX10_first_r4 ++ wsX10_first_r5)))) ++ wsX50 ++ wsX100 ++ wsX20 ++ wsX30 ++ wsX60)
def wsX10_often_r1 : List Cond := [Cond.methodLink RX10 124 yX10_madeRow, Cond.instanceMethod yX10_madeRow, Cond.selects RX10 yX10_madeRow yX10_madeRow, Cond.initialized RX10, Cond.code yX10_madeRow cX10_madeRow 3 (some (.object "TellingRows$Row")), Cond.fieldLink RX10 27 "TellingRows" "maker" "LTellingRows$Maker;", Cond.methodLink RX10 99 yX10_registerOf, Cond.instanceMethod yX10_registerOf, Cond.selects RX10 yX10_registerOf yX10_registerOf, Cond.code yX10_registerOf cX10_registerOf 2 (some (.object "TellingRows$Row")), Cond.fieldLink RX10 11 "TellingRows" "registers" "[LTellingRows$Row;", Cond.methodLink RX10 206 yX2_make, Cond.instanceMethod yX2_make, Cond.selects RX2 yX2_make yX2_make, Cond.initialized RX2, Cond.code yX2_make cX2_make 6 none, Cond.fieldLink RX2 15 "TellingRows$Maker" "marks" "LTellingRows$Marks;", Cond.fieldLink RX2 9 "TellingRows$Maker" "alike" "[I", Cond.methodLink RX2 19 yX3_clear, Cond.instanceMethod yX3_clear, Cond.selects RX3 yX3_clear yX3_clear, Cond.initialized RX3, Cond.code yX3_clear cX3_clear 1 none, Cond.fieldLink RX3 10 "TellingRows$Marks" "marks" "[I"]
def wsX10_often_r2 : List Cond := [Cond.methodLink RX3 16 yJ7_fill_53178, Cond.static yJ7_fill_53178, Cond.initialized RJ7, Cond.code yJ7_fill_53178 cJ7_fill_53178 4 none, Cond.methodLink RX2 24 yJ7_fill_53178, Cond.methodLink RX2 39 yX2_due, Cond.instanceMethod yX2_due, Cond.selects RX2 yX2_due yX2_due, Cond.code yX2_due cX2_due 4 (some .int), Cond.fieldLink RX2 69 "TellingRows$1" "$SwitchMap$TellingRows$Sort" "[I", Cond.methodLink RX2 74 ⟨"TellingRows$Sort", "ordinal", "()I"⟩, Cond.sameMethod "TellingRows$Sort" "java/lang/Enum" "ordinal" "()I", Cond.selects RX7 ⟨"TellingRows$Sort", "ordinal", "()I"⟩ yJx29ce0_ordinal_8abf5, Cond.instanceMethod yJx29ce0_ordinal_8abf5, Cond.initialized RJx29ce0, Cond.code yJx29ce0_ordinal_8abf5 cJx29ce0_ordinal_8abf5 1 (some .int), Cond.fieldLink RJx29ce0 7 "java/lang/Enum" "ordinal" "I", Cond.methodLink RX2 79 yX2_reach, Cond.instanceMethod yX2_reach, Cond.selects RX2 yX2_reach yX2_reach, Cond.code yX2_reach cX2_reach 6 (some .int), Cond.methodLink RX2 83 yX2_fold, Cond.instanceMethod yX2_fold, Cond.selects RX2 yX2_fold yX2_fold]
def wsX10_often_r3 : List Cond := [Cond.code yX2_fold cX2_fold 4 (some .int), Cond.methodLink RX2 86 yX2_back, Cond.instanceMethod yX2_back, Cond.selects RX2 yX2_back yX2_back, Cond.code yX2_back cX2_back 4 (some .int), Cond.methodLink RX2 102 yX3_of, Cond.instanceMethod yX3_of, Cond.selects RX3 yX3_of yX3_of, Cond.code yX3_of cX3_of 2 (some .int), Cond.methodLink RX2 105 yX3_put, Cond.instanceMethod yX3_put, Cond.selects RX3 yX3_put yX3_put, Cond.code yX3_put cX3_put 3 none, Cond.methodLink RX2 90 yX2_again, Cond.instanceMethod yX2_again, Cond.selects RX2 yX2_again yX2_again, Cond.code yX2_again cX2_again 5 (some .int), Cond.methodLink RX2 109 Lib.Math.max.name, Cond.static Lib.Math.max.name, Cond.initialized "java/lang/Math", Cond.code Lib.Math.max.name Lib.Math.max.code 2 (some .int), Cond.methodLink RX2 93 yX2_sum, Cond.instanceMethod yX2_sum, Cond.selects RX2 yX2_sum yX2_sum]
def wsX10_often_r4 : List Cond := [Cond.code yX2_sum cX2_sum 5 (some .int), Cond.constant RX2 118 (60000), Cond.methodLink RX2 114 yX3_raise, Cond.instanceMethod yX3_raise, Cond.selects RX3 yX3_raise yX3_raise, Cond.code yX3_raise cX3_raise 2 none, Cond.methodLink RX2 96 yX2_soFar, Cond.instanceMethod yX2_soFar, Cond.selects RX2 yX2_soFar yX2_soFar, Cond.code yX2_soFar cX2_soFar 2 (some .int), Cond.methodLink RX2 99 yX2_free, Cond.instanceMethod yX2_free, Cond.selects RX2 yX2_free yX2_free, Cond.code yX2_free cX2_free 4 (some .int), Cond.methodLink RX2 47 yX6_size, Cond.instanceMethod yX6_size, Cond.selects RX6 yX6_size yX6_size, Cond.initialized RX6, Cond.code yX6_size cX6_size 1 (some .int), Cond.fieldLink RX6 21 "TellingRows$Sequence" "size" "I", Cond.methodLink RX2 53 yX6_get, Cond.instanceMethod yX6_get, Cond.selects RX6 yX6_get yX6_get, Cond.code yX6_get cX6_get 2 (some .int)]
def wsX10_often_r5 : List Cond := [Cond.fieldLink RX6 15 "TellingRows$Sequence" "items" "[I", Cond.static yX10_isNumber, Cond.code yX10_isNumber cX10_isNumber 1 (some .boolean), Cond.constant RX10 201 (60000), Cond.methodLink RX10 130 yX10_isNumber, Cond.methodLink RX10 136 yX5_countOf, Cond.instanceMethod yX5_countOf, Cond.selects RX5 yX5_countOf yX5_countOf, Cond.initialized RX5, Cond.code yX5_countOf cX5_countOf 5 (some .int), Cond.fieldLink RX5 51 "TellingRows$Row" "length" "I", Cond.methodLink RX5 55 yX5_numberAt, Cond.instanceMethod yX5_numberAt, Cond.selects RX5 yX5_numberAt yX5_numberAt, Cond.code yX5_numberAt cX5_numberAt 2 (some .int), Cond.fieldLink RX5 20 "TellingRows$Row" "numbers" "[I"]
def wsX10_often : List Cond := .code yX10_often cX10_often 5 (some .int) :: ((wsX10_often_r1 ++ (wsX10_often_r2 ++ (wsX10_often_r3 ++ (wsX10_often_r4 ++ wsX10_often_r5)))) ++ wsX50 ++ wsX100 ++ wsX20 ++ wsX30 ++ wsX60)
def wsX10_run_r1 : List Cond := [Cond.methodLink RX10 124 yX10_madeRow, Cond.instanceMethod yX10_madeRow, Cond.selects RX10 yX10_madeRow yX10_madeRow, Cond.initialized RX10, Cond.code yX10_madeRow cX10_madeRow 3 (some (.object "TellingRows$Row")), Cond.fieldLink RX10 27 "TellingRows" "maker" "LTellingRows$Maker;", Cond.methodLink RX10 99 yX10_registerOf, Cond.instanceMethod yX10_registerOf, Cond.selects RX10 yX10_registerOf yX10_registerOf, Cond.code yX10_registerOf cX10_registerOf 2 (some (.object "TellingRows$Row")), Cond.fieldLink RX10 11 "TellingRows" "registers" "[LTellingRows$Row;", Cond.methodLink RX10 206 yX2_make, Cond.instanceMethod yX2_make, Cond.selects RX2 yX2_make yX2_make, Cond.initialized RX2, Cond.code yX2_make cX2_make 6 none, Cond.fieldLink RX2 15 "TellingRows$Maker" "marks" "LTellingRows$Marks;", Cond.fieldLink RX2 9 "TellingRows$Maker" "alike" "[I", Cond.methodLink RX2 19 yX3_clear, Cond.instanceMethod yX3_clear, Cond.selects RX3 yX3_clear yX3_clear, Cond.initialized RX3, Cond.code yX3_clear cX3_clear 1 none, Cond.fieldLink RX3 10 "TellingRows$Marks" "marks" "[I"]
def wsX10_run_r2 : List Cond := [Cond.methodLink RX3 16 yJ7_fill_53178, Cond.static yJ7_fill_53178, Cond.initialized RJ7, Cond.code yJ7_fill_53178 cJ7_fill_53178 4 none, Cond.methodLink RX2 24 yJ7_fill_53178, Cond.methodLink RX2 39 yX2_due, Cond.instanceMethod yX2_due, Cond.selects RX2 yX2_due yX2_due, Cond.code yX2_due cX2_due 4 (some .int), Cond.fieldLink RX2 69 "TellingRows$1" "$SwitchMap$TellingRows$Sort" "[I", Cond.methodLink RX2 74 ⟨"TellingRows$Sort", "ordinal", "()I"⟩, Cond.sameMethod "TellingRows$Sort" "java/lang/Enum" "ordinal" "()I", Cond.selects RX7 ⟨"TellingRows$Sort", "ordinal", "()I"⟩ yJx29ce0_ordinal_8abf5, Cond.instanceMethod yJx29ce0_ordinal_8abf5, Cond.initialized RJx29ce0, Cond.code yJx29ce0_ordinal_8abf5 cJx29ce0_ordinal_8abf5 1 (some .int), Cond.fieldLink RJx29ce0 7 "java/lang/Enum" "ordinal" "I", Cond.methodLink RX2 79 yX2_reach, Cond.instanceMethod yX2_reach, Cond.selects RX2 yX2_reach yX2_reach, Cond.code yX2_reach cX2_reach 6 (some .int), Cond.methodLink RX2 83 yX2_fold, Cond.instanceMethod yX2_fold, Cond.selects RX2 yX2_fold yX2_fold]
def wsX10_run_r3 : List Cond := [Cond.code yX2_fold cX2_fold 4 (some .int), Cond.methodLink RX2 86 yX2_back, Cond.instanceMethod yX2_back, Cond.selects RX2 yX2_back yX2_back, Cond.code yX2_back cX2_back 4 (some .int), Cond.methodLink RX2 102 yX3_of, Cond.instanceMethod yX3_of, Cond.selects RX3 yX3_of yX3_of, Cond.code yX3_of cX3_of 2 (some .int), Cond.methodLink RX2 105 yX3_put, Cond.instanceMethod yX3_put, Cond.selects RX3 yX3_put yX3_put, Cond.code yX3_put cX3_put 3 none, Cond.methodLink RX2 90 yX2_again, Cond.instanceMethod yX2_again, Cond.selects RX2 yX2_again yX2_again, Cond.code yX2_again cX2_again 5 (some .int), Cond.methodLink RX2 109 Lib.Math.max.name, Cond.static Lib.Math.max.name, Cond.initialized "java/lang/Math", Cond.code Lib.Math.max.name Lib.Math.max.code 2 (some .int), Cond.methodLink RX2 93 yX2_sum, Cond.instanceMethod yX2_sum, Cond.selects RX2 yX2_sum yX2_sum]
def wsX10_run_r4 : List Cond := [Cond.code yX2_sum cX2_sum 5 (some .int), Cond.constant RX2 118 (60000), Cond.methodLink RX2 114 yX3_raise, Cond.instanceMethod yX3_raise, Cond.selects RX3 yX3_raise yX3_raise, Cond.code yX3_raise cX3_raise 2 none, Cond.methodLink RX2 96 yX2_soFar, Cond.instanceMethod yX2_soFar, Cond.selects RX2 yX2_soFar yX2_soFar, Cond.code yX2_soFar cX2_soFar 2 (some .int), Cond.methodLink RX2 99 yX2_free, Cond.instanceMethod yX2_free, Cond.selects RX2 yX2_free yX2_free, Cond.code yX2_free cX2_free 4 (some .int), Cond.methodLink RX2 47 yX6_size, Cond.instanceMethod yX6_size, Cond.selects RX6 yX6_size yX6_size, Cond.initialized RX6, Cond.code yX6_size cX6_size 1 (some .int), Cond.fieldLink RX6 21 "TellingRows$Sequence" "size" "I", Cond.methodLink RX2 53 yX6_get, Cond.instanceMethod yX6_get, Cond.selects RX6 yX6_get yX6_get, Cond.code yX6_get cX6_get 2 (some .int)]
def wsX10_run_r5 : List Cond := [Cond.fieldLink RX6 15 "TellingRows$Sequence" "items" "[I", Cond.static yX10_isNumber, Cond.code yX10_isNumber cX10_isNumber 1 (some .boolean), Cond.constant RX10 201 (60000), Cond.methodLink RX10 140 yX5_runStart, Cond.instanceMethod yX5_runStart, Cond.selects RX5 yX5_runStart yX5_runStart, Cond.initialized RX5, Cond.code yX5_runStart cX5_runStart 4 (some .int), Cond.fieldLink RX5 51 "TellingRows$Row" "length" "I", Cond.methodLink RX5 59 yX5_runEnd, Cond.instanceMethod yX5_runEnd, Cond.selects RX5 yX5_runEnd yX5_runEnd, Cond.code yX5_runEnd cX5_runEnd 4 (some .int), Cond.methodLink RX5 55 yX5_numberAt, Cond.instanceMethod yX5_numberAt, Cond.selects RX5 yX5_numberAt yX5_numberAt, Cond.code yX5_numberAt cX5_numberAt 2 (some .int), Cond.fieldLink RX5 20 "TellingRows$Row" "numbers" "[I", Cond.methodLink RX10 127 yX5_numberAt, Cond.methodLink RX10 146 yX5_runEnd]
def wsX10_run : List Cond := .code yX10_run cX10_run 6 (some .int) :: ((wsX10_run_r1 ++ (wsX10_run_r2 ++ (wsX10_run_r3 ++ (wsX10_run_r4 ++ wsX10_run_r5)))) ++ wsX50 ++ wsX100 ++ wsX20 ++ wsX30 ++ wsX60)
def wsX10_most_r1 : List Cond := [Cond.fieldLink RX10 18 "TellingRows" "marks" "LTellingRows$Marks;", Cond.methodLink RX10 124 yX10_madeRow, Cond.instanceMethod yX10_madeRow, Cond.selects RX10 yX10_madeRow yX10_madeRow, Cond.initialized RX10, Cond.code yX10_madeRow cX10_madeRow 3 (some (.object "TellingRows$Row")), Cond.fieldLink RX10 27 "TellingRows" "maker" "LTellingRows$Maker;", Cond.methodLink RX10 99 yX10_registerOf, Cond.instanceMethod yX10_registerOf, Cond.selects RX10 yX10_registerOf yX10_registerOf, Cond.code yX10_registerOf cX10_registerOf 2 (some (.object "TellingRows$Row")), Cond.fieldLink RX10 11 "TellingRows" "registers" "[LTellingRows$Row;", Cond.methodLink RX10 206 yX2_make, Cond.instanceMethod yX2_make, Cond.selects RX2 yX2_make yX2_make, Cond.initialized RX2, Cond.code yX2_make cX2_make 6 none, Cond.fieldLink RX2 15 "TellingRows$Maker" "marks" "LTellingRows$Marks;", Cond.fieldLink RX2 9 "TellingRows$Maker" "alike" "[I", Cond.methodLink RX2 19 yX3_clear, Cond.instanceMethod yX3_clear, Cond.selects RX3 yX3_clear yX3_clear, Cond.initialized RX3, Cond.code yX3_clear cX3_clear 1 none]
def wsX10_most_r2 : List Cond := [Cond.fieldLink RX3 10 "TellingRows$Marks" "marks" "[I", Cond.methodLink RX3 16 yJ7_fill_53178, Cond.static yJ7_fill_53178, Cond.initialized RJ7, Cond.code yJ7_fill_53178 cJ7_fill_53178 4 none, Cond.methodLink RX2 24 yJ7_fill_53178, Cond.methodLink RX2 39 yX2_due, Cond.instanceMethod yX2_due, Cond.selects RX2 yX2_due yX2_due, Cond.code yX2_due cX2_due 4 (some .int), Cond.fieldLink RX2 69 "TellingRows$1" "$SwitchMap$TellingRows$Sort" "[I", Cond.methodLink RX2 74 ⟨"TellingRows$Sort", "ordinal", "()I"⟩, Cond.sameMethod "TellingRows$Sort" "java/lang/Enum" "ordinal" "()I", Cond.selects RX7 ⟨"TellingRows$Sort", "ordinal", "()I"⟩ yJx29ce0_ordinal_8abf5, Cond.instanceMethod yJx29ce0_ordinal_8abf5, Cond.initialized RJx29ce0, Cond.code yJx29ce0_ordinal_8abf5 cJx29ce0_ordinal_8abf5 1 (some .int), Cond.fieldLink RJx29ce0 7 "java/lang/Enum" "ordinal" "I", Cond.methodLink RX2 79 yX2_reach, Cond.instanceMethod yX2_reach, Cond.selects RX2 yX2_reach yX2_reach, Cond.code yX2_reach cX2_reach 6 (some .int), Cond.methodLink RX2 83 yX2_fold, Cond.instanceMethod yX2_fold]
def wsX10_most_r3 : List Cond := [Cond.selects RX2 yX2_fold yX2_fold, Cond.code yX2_fold cX2_fold 4 (some .int), Cond.methodLink RX2 86 yX2_back, Cond.instanceMethod yX2_back, Cond.selects RX2 yX2_back yX2_back, Cond.code yX2_back cX2_back 4 (some .int), Cond.methodLink RX2 102 yX3_of, Cond.instanceMethod yX3_of, Cond.selects RX3 yX3_of yX3_of, Cond.code yX3_of cX3_of 2 (some .int), Cond.methodLink RX2 105 yX3_put, Cond.instanceMethod yX3_put, Cond.selects RX3 yX3_put yX3_put, Cond.code yX3_put cX3_put 3 none, Cond.methodLink RX2 90 yX2_again, Cond.instanceMethod yX2_again, Cond.selects RX2 yX2_again yX2_again, Cond.code yX2_again cX2_again 5 (some .int), Cond.methodLink RX2 109 Lib.Math.max.name, Cond.static Lib.Math.max.name, Cond.initialized "java/lang/Math", Cond.code Lib.Math.max.name Lib.Math.max.code 2 (some .int), Cond.methodLink RX2 93 yX2_sum, Cond.instanceMethod yX2_sum]
def wsX10_most_r4 : List Cond := [Cond.selects RX2 yX2_sum yX2_sum, Cond.code yX2_sum cX2_sum 5 (some .int), Cond.constant RX2 118 (60000), Cond.methodLink RX2 114 yX3_raise, Cond.instanceMethod yX3_raise, Cond.selects RX3 yX3_raise yX3_raise, Cond.code yX3_raise cX3_raise 2 none, Cond.methodLink RX2 96 yX2_soFar, Cond.instanceMethod yX2_soFar, Cond.selects RX2 yX2_soFar yX2_soFar, Cond.code yX2_soFar cX2_soFar 2 (some .int), Cond.methodLink RX2 99 yX2_free, Cond.instanceMethod yX2_free, Cond.selects RX2 yX2_free yX2_free, Cond.code yX2_free cX2_free 4 (some .int), Cond.methodLink RX2 47 yX6_size, Cond.instanceMethod yX6_size, Cond.selects RX6 yX6_size yX6_size, Cond.initialized RX6, Cond.code yX6_size cX6_size 1 (some .int), Cond.fieldLink RX6 21 "TellingRows$Sequence" "size" "I", Cond.methodLink RX2 53 yX6_get, Cond.instanceMethod yX6_get, Cond.selects RX6 yX6_get yX6_get]
def wsX10_most_r5 : List Cond := [Cond.code yX6_get cX6_get 2 (some .int), Cond.fieldLink RX6 15 "TellingRows$Sequence" "items" "[I", Cond.static yX10_isNumber, Cond.code yX10_isNumber cX10_isNumber 1 (some .boolean), Cond.constant RX10 201 (60000), Cond.methodLink RX10 149 yX5_longestRun, Cond.instanceMethod yX5_longestRun, Cond.selects RX5 yX5_longestRun yX5_longestRun, Cond.initialized RX5, Cond.code yX5_longestRun cX5_longestRun 7 (some .int), Cond.fieldLink RX5 51 "TellingRows$Row" "length" "I", Cond.methodLink RX5 68 Lib.Math.min.name, Cond.static Lib.Math.min.name, Cond.code Lib.Math.min.name Lib.Math.min.code 2 (some .int), Cond.methodLink RX5 63 Lib.Math.max.name, Cond.methodLink RX5 59 yX5_runEnd, Cond.instanceMethod yX5_runEnd, Cond.selects RX5 yX5_runEnd yX5_runEnd, Cond.code yX5_runEnd cX5_runEnd 4 (some .int), Cond.methodLink RX5 55 yX5_numberAt, Cond.instanceMethod yX5_numberAt, Cond.selects RX5 yX5_numberAt yX5_numberAt, Cond.code yX5_numberAt cX5_numberAt 2 (some .int), Cond.fieldLink RX5 20 "TellingRows$Row" "numbers" "[I"]
def wsX10_most_r6 : List Cond := [Cond.methodLink RX10 152 yX5_unlike, Cond.instanceMethod yX5_unlike, Cond.selects RX5 yX5_unlike yX5_unlike, Cond.code yX5_unlike cX5_unlike 5 (some .int), Cond.methodLink RX5 71 yX3_clear, Cond.methodLink RX5 76 yX3_of, Cond.methodLink RX5 79 yX3_put, Cond.methodLink RX10 156 yX5_greatest, Cond.instanceMethod yX5_greatest, Cond.selects RX5 yX5_greatest yX5_greatest, Cond.code yX5_greatest cX5_greatest 4 (some .int), Cond.methodLink RX10 133 yX5_placeOf, Cond.instanceMethod yX5_placeOf, Cond.selects RX5 yX5_placeOf yX5_placeOf, Cond.code yX5_placeOf cX5_placeOf 3 (some .int)]
def wsX10_most : List Cond := .code yX10_most cX10_most 6 (some .int) :: ((wsX10_most_r1 ++ (wsX10_most_r2 ++ (wsX10_most_r3 ++ (wsX10_most_r4 ++ (wsX10_most_r5 ++ wsX10_most_r6))))) ++ wsX100 ++ wsX50 ++ wsX20 ++ wsX30 ++ wsX60)
def wsX10_around_r1 : List Cond := [Cond.methodLink RX10 124 yX10_madeRow, Cond.instanceMethod yX10_madeRow, Cond.selects RX10 yX10_madeRow yX10_madeRow, Cond.initialized RX10, Cond.code yX10_madeRow cX10_madeRow 3 (some (.object "TellingRows$Row")), Cond.fieldLink RX10 27 "TellingRows" "maker" "LTellingRows$Maker;", Cond.methodLink RX10 99 yX10_registerOf, Cond.instanceMethod yX10_registerOf, Cond.selects RX10 yX10_registerOf yX10_registerOf, Cond.code yX10_registerOf cX10_registerOf 2 (some (.object "TellingRows$Row")), Cond.fieldLink RX10 11 "TellingRows" "registers" "[LTellingRows$Row;", Cond.methodLink RX10 206 yX2_make, Cond.instanceMethod yX2_make, Cond.selects RX2 yX2_make yX2_make, Cond.initialized RX2, Cond.code yX2_make cX2_make 6 none, Cond.fieldLink RX2 15 "TellingRows$Maker" "marks" "LTellingRows$Marks;", Cond.fieldLink RX2 9 "TellingRows$Maker" "alike" "[I", Cond.methodLink RX2 19 yX3_clear, Cond.instanceMethod yX3_clear, Cond.selects RX3 yX3_clear yX3_clear, Cond.initialized RX3, Cond.code yX3_clear cX3_clear 1 none, Cond.fieldLink RX3 10 "TellingRows$Marks" "marks" "[I"]
def wsX10_around_r2 : List Cond := [Cond.methodLink RX3 16 yJ7_fill_53178, Cond.static yJ7_fill_53178, Cond.initialized RJ7, Cond.code yJ7_fill_53178 cJ7_fill_53178 4 none, Cond.methodLink RX2 24 yJ7_fill_53178, Cond.methodLink RX2 39 yX2_due, Cond.instanceMethod yX2_due, Cond.selects RX2 yX2_due yX2_due, Cond.code yX2_due cX2_due 4 (some .int), Cond.fieldLink RX2 69 "TellingRows$1" "$SwitchMap$TellingRows$Sort" "[I", Cond.methodLink RX2 74 ⟨"TellingRows$Sort", "ordinal", "()I"⟩, Cond.sameMethod "TellingRows$Sort" "java/lang/Enum" "ordinal" "()I", Cond.selects RX7 ⟨"TellingRows$Sort", "ordinal", "()I"⟩ yJx29ce0_ordinal_8abf5, Cond.instanceMethod yJx29ce0_ordinal_8abf5, Cond.initialized RJx29ce0, Cond.code yJx29ce0_ordinal_8abf5 cJx29ce0_ordinal_8abf5 1 (some .int), Cond.fieldLink RJx29ce0 7 "java/lang/Enum" "ordinal" "I", Cond.methodLink RX2 79 yX2_reach, Cond.instanceMethod yX2_reach, Cond.selects RX2 yX2_reach yX2_reach, Cond.code yX2_reach cX2_reach 6 (some .int), Cond.methodLink RX2 83 yX2_fold, Cond.instanceMethod yX2_fold, Cond.selects RX2 yX2_fold yX2_fold]
def wsX10_around_r3 : List Cond := [Cond.code yX2_fold cX2_fold 4 (some .int), Cond.methodLink RX2 86 yX2_back, Cond.instanceMethod yX2_back, Cond.selects RX2 yX2_back yX2_back, Cond.code yX2_back cX2_back 4 (some .int), Cond.methodLink RX2 102 yX3_of, Cond.instanceMethod yX3_of, Cond.selects RX3 yX3_of yX3_of, Cond.code yX3_of cX3_of 2 (some .int), Cond.methodLink RX2 105 yX3_put, Cond.instanceMethod yX3_put, Cond.selects RX3 yX3_put yX3_put, Cond.code yX3_put cX3_put 3 none, Cond.methodLink RX2 90 yX2_again, Cond.instanceMethod yX2_again, Cond.selects RX2 yX2_again yX2_again, Cond.code yX2_again cX2_again 5 (some .int), Cond.methodLink RX2 109 Lib.Math.max.name, Cond.static Lib.Math.max.name, Cond.initialized "java/lang/Math", Cond.code Lib.Math.max.name Lib.Math.max.code 2 (some .int), Cond.methodLink RX2 93 yX2_sum, Cond.instanceMethod yX2_sum, Cond.selects RX2 yX2_sum yX2_sum]
def wsX10_around_r4 : List Cond := [Cond.code yX2_sum cX2_sum 5 (some .int), Cond.constant RX2 118 (60000), Cond.methodLink RX2 114 yX3_raise, Cond.instanceMethod yX3_raise, Cond.selects RX3 yX3_raise yX3_raise, Cond.code yX3_raise cX3_raise 2 none, Cond.methodLink RX2 96 yX2_soFar, Cond.instanceMethod yX2_soFar, Cond.selects RX2 yX2_soFar yX2_soFar, Cond.code yX2_soFar cX2_soFar 2 (some .int), Cond.methodLink RX2 99 yX2_free, Cond.instanceMethod yX2_free, Cond.selects RX2 yX2_free yX2_free, Cond.code yX2_free cX2_free 4 (some .int), Cond.methodLink RX2 47 yX6_size, Cond.instanceMethod yX6_size, Cond.selects RX6 yX6_size yX6_size, Cond.initialized RX6, Cond.code yX6_size cX6_size 1 (some .int), Cond.fieldLink RX6 21 "TellingRows$Sequence" "size" "I", Cond.methodLink RX2 53 yX6_get, Cond.instanceMethod yX6_get, Cond.selects RX6 yX6_get yX6_get, Cond.code yX6_get cX6_get 2 (some .int)]
def wsX10_around_r5 : List Cond := [Cond.fieldLink RX6 15 "TellingRows$Sequence" "items" "[I", Cond.static yX10_isNumber, Cond.code yX10_isNumber cX10_isNumber 1 (some .boolean), Cond.constant RX10 201 (60000), Cond.methodLink RX10 159 yX5_period, Cond.instanceMethod yX5_period, Cond.selects RX5 yX5_period yX5_period, Cond.initialized RX5, Cond.code yX5_period cX5_period 2 (some .int), Cond.fieldLink RX5 51 "TellingRows$Row" "length" "I", Cond.methodLink RX5 83 yX5_tail, Cond.instanceMethod yX5_tail, Cond.selects RX5 yX5_tail yX5_tail, Cond.code yX5_tail cX5_tail 3 (some .int), Cond.methodLink RX5 63 Lib.Math.max.name, Cond.methodLink RX5 55 yX5_numberAt, Cond.instanceMethod yX5_numberAt, Cond.selects RX5 yX5_numberAt yX5_numberAt, Cond.code yX5_numberAt cX5_numberAt 2 (some .int), Cond.fieldLink RX5 20 "TellingRows$Row" "numbers" "[I", Cond.methodLink RX10 162 yX5_tail]
def wsX10_around : List Cond := .code yX10_around cX10_around 5 (some .int) :: ((wsX10_around_r1 ++ (wsX10_around_r2 ++ (wsX10_around_r3 ++ (wsX10_around_r4 ++ wsX10_around_r5)))) ++ wsX50 ++ wsX100 ++ wsX20 ++ wsX30 ++ wsX60)
def wsX10_number : List Cond := .code yX10_number cX10_number 2 (some .int) :: ([.fieldLink RX10 47 "TellingRows" "numbers" "LTellingRows$Sequence;", .methodLink RX10 130 yX10_isNumber, .static yX10_isNumber, .initialized RX10, .code yX10_isNumber cX10_isNumber 1 (some .boolean), .constant RX10 201 (60000), .methodLink RX10 79 yX6_add, .instanceMethod yX6_add, .selects RX6 yX6_add yX6_add, .initialized RX6, .code yX6_add cX6_add 2 (some .boolean), .fieldLink RX6 21 "TellingRows$Sequence" "size" "I", .fieldLink RX6 15 "TellingRows$Sequence" "items" "[I", .methodLink RX10 75 yX6_size, .instanceMethod yX6_size, .selects RX6 yX6_size yX6_size, .code yX6_size cX6_size 1 (some .int)] ++ wsX100 ++ wsX60)
def wsX10_noNumbers : List Cond := .code yX10_noNumbers cX10_noNumbers 1 (some .int) :: ([.fieldLink RX10 47 "TellingRows" "numbers" "LTellingRows$Sequence;", .methodLink RX10 83 yX6_clear, .instanceMethod yX6_clear, .selects RX6 yX6_clear yX6_clear, .initialized RX6, .code yX6_clear cX6_clear 2 (some .int), .fieldLink RX6 21 "TellingRows$Sequence" "size" "I"] ++ wsX100 ++ wsX60)
def wsX10_breaks_r1 : List Cond := [Cond.fieldLink RX10 47 "TellingRows" "numbers" "LTellingRows$Sequence;", Cond.methodLink RX10 124 yX10_madeRow, Cond.instanceMethod yX10_madeRow, Cond.selects RX10 yX10_madeRow yX10_madeRow, Cond.initialized RX10, Cond.code yX10_madeRow cX10_madeRow 3 (some (.object "TellingRows$Row")), Cond.fieldLink RX10 27 "TellingRows" "maker" "LTellingRows$Maker;", Cond.methodLink RX10 99 yX10_registerOf, Cond.instanceMethod yX10_registerOf, Cond.selects RX10 yX10_registerOf yX10_registerOf, Cond.code yX10_registerOf cX10_registerOf 2 (some (.object "TellingRows$Row")), Cond.fieldLink RX10 11 "TellingRows" "registers" "[LTellingRows$Row;", Cond.methodLink RX10 206 yX2_make, Cond.instanceMethod yX2_make, Cond.selects RX2 yX2_make yX2_make, Cond.initialized RX2, Cond.code yX2_make cX2_make 6 none, Cond.fieldLink RX2 15 "TellingRows$Maker" "marks" "LTellingRows$Marks;", Cond.fieldLink RX2 9 "TellingRows$Maker" "alike" "[I", Cond.methodLink RX2 19 yX3_clear, Cond.instanceMethod yX3_clear, Cond.selects RX3 yX3_clear yX3_clear, Cond.initialized RX3, Cond.code yX3_clear cX3_clear 1 none]
def wsX10_breaks_r2 : List Cond := [Cond.fieldLink RX3 10 "TellingRows$Marks" "marks" "[I", Cond.methodLink RX3 16 yJ7_fill_53178, Cond.static yJ7_fill_53178, Cond.initialized RJ7, Cond.code yJ7_fill_53178 cJ7_fill_53178 4 none, Cond.methodLink RX2 24 yJ7_fill_53178, Cond.methodLink RX2 39 yX2_due, Cond.instanceMethod yX2_due, Cond.selects RX2 yX2_due yX2_due, Cond.code yX2_due cX2_due 4 (some .int), Cond.fieldLink RX2 69 "TellingRows$1" "$SwitchMap$TellingRows$Sort" "[I", Cond.methodLink RX2 74 ⟨"TellingRows$Sort", "ordinal", "()I"⟩, Cond.sameMethod "TellingRows$Sort" "java/lang/Enum" "ordinal" "()I", Cond.selects RX7 ⟨"TellingRows$Sort", "ordinal", "()I"⟩ yJx29ce0_ordinal_8abf5, Cond.instanceMethod yJx29ce0_ordinal_8abf5, Cond.initialized RJx29ce0, Cond.code yJx29ce0_ordinal_8abf5 cJx29ce0_ordinal_8abf5 1 (some .int), Cond.fieldLink RJx29ce0 7 "java/lang/Enum" "ordinal" "I", Cond.methodLink RX2 79 yX2_reach, Cond.instanceMethod yX2_reach, Cond.selects RX2 yX2_reach yX2_reach, Cond.code yX2_reach cX2_reach 6 (some .int), Cond.methodLink RX2 83 yX2_fold, Cond.instanceMethod yX2_fold]
def wsX10_breaks_r3 : List Cond := [Cond.selects RX2 yX2_fold yX2_fold, Cond.code yX2_fold cX2_fold 4 (some .int), Cond.methodLink RX2 86 yX2_back, Cond.instanceMethod yX2_back, Cond.selects RX2 yX2_back yX2_back, Cond.code yX2_back cX2_back 4 (some .int), Cond.methodLink RX2 102 yX3_of, Cond.instanceMethod yX3_of, Cond.selects RX3 yX3_of yX3_of, Cond.code yX3_of cX3_of 2 (some .int), Cond.methodLink RX2 105 yX3_put, Cond.instanceMethod yX3_put, Cond.selects RX3 yX3_put yX3_put, Cond.code yX3_put cX3_put 3 none, Cond.methodLink RX2 90 yX2_again, Cond.instanceMethod yX2_again, Cond.selects RX2 yX2_again yX2_again, Cond.code yX2_again cX2_again 5 (some .int), Cond.methodLink RX2 109 Lib.Math.max.name, Cond.static Lib.Math.max.name, Cond.initialized "java/lang/Math", Cond.code Lib.Math.max.name Lib.Math.max.code 2 (some .int), Cond.methodLink RX2 93 yX2_sum, Cond.instanceMethod yX2_sum]
def wsX10_breaks_r4 : List Cond := [Cond.selects RX2 yX2_sum yX2_sum, Cond.code yX2_sum cX2_sum 5 (some .int), Cond.constant RX2 118 (60000), Cond.methodLink RX2 114 yX3_raise, Cond.instanceMethod yX3_raise, Cond.selects RX3 yX3_raise yX3_raise, Cond.code yX3_raise cX3_raise 2 none, Cond.methodLink RX2 96 yX2_soFar, Cond.instanceMethod yX2_soFar, Cond.selects RX2 yX2_soFar yX2_soFar, Cond.code yX2_soFar cX2_soFar 2 (some .int), Cond.methodLink RX2 99 yX2_free, Cond.instanceMethod yX2_free, Cond.selects RX2 yX2_free yX2_free, Cond.code yX2_free cX2_free 4 (some .int), Cond.methodLink RX2 47 yX6_size, Cond.instanceMethod yX6_size, Cond.selects RX6 yX6_size yX6_size, Cond.initialized RX6, Cond.code yX6_size cX6_size 1 (some .int), Cond.fieldLink RX6 21 "TellingRows$Sequence" "size" "I", Cond.methodLink RX2 53 yX6_get, Cond.instanceMethod yX6_get, Cond.selects RX6 yX6_get yX6_get]
def wsX10_breaks_r5 : List Cond := [Cond.code yX6_get cX6_get 2 (some .int), Cond.fieldLink RX6 15 "TellingRows$Sequence" "items" "[I", Cond.static yX10_isNumber, Cond.code yX10_isNumber cX10_isNumber 1 (some .boolean), Cond.constant RX10 201 (60000), Cond.methodLink RX10 75 yX6_size, Cond.methodLink RX10 127 yX5_numberAt, Cond.instanceMethod yX5_numberAt, Cond.selects RX5 yX5_numberAt yX5_numberAt, Cond.initialized RX5, Cond.code yX5_numberAt cX5_numberAt 2 (some .int), Cond.fieldLink RX5 51 "TellingRows$Row" "length" "I", Cond.fieldLink RX5 20 "TellingRows$Row" "numbers" "[I", Cond.methodLink RX10 120 yX6_get]
def wsX10_breaks : List Cond := .code yX10_breaks cX10_breaks 4 (some .int) :: ((wsX10_breaks_r1 ++ (wsX10_breaks_r2 ++ (wsX10_breaks_r3 ++ (wsX10_breaks_r4 ++ wsX10_breaks_r5)))) ++ wsX100 ++ wsX50 ++ wsX20 ++ wsX30 ++ wsX60)
def wsX10_may_r1 : List Cond := [Cond.methodLink RX10 165 yX10_breaks, Cond.instanceMethod yX10_breaks, Cond.selects RX10 yX10_breaks yX10_breaks, Cond.initialized RX10, Cond.code yX10_breaks cX10_breaks 4 (some .int), Cond.fieldLink RX10 47 "TellingRows" "numbers" "LTellingRows$Sequence;", Cond.methodLink RX10 124 yX10_madeRow, Cond.instanceMethod yX10_madeRow, Cond.selects RX10 yX10_madeRow yX10_madeRow, Cond.code yX10_madeRow cX10_madeRow 3 (some (.object "TellingRows$Row")), Cond.fieldLink RX10 27 "TellingRows" "maker" "LTellingRows$Maker;", Cond.methodLink RX10 99 yX10_registerOf, Cond.instanceMethod yX10_registerOf, Cond.selects RX10 yX10_registerOf yX10_registerOf, Cond.code yX10_registerOf cX10_registerOf 2 (some (.object "TellingRows$Row")), Cond.fieldLink RX10 11 "TellingRows" "registers" "[LTellingRows$Row;", Cond.methodLink RX10 206 yX2_make, Cond.instanceMethod yX2_make, Cond.selects RX2 yX2_make yX2_make, Cond.initialized RX2, Cond.code yX2_make cX2_make 6 none, Cond.fieldLink RX2 15 "TellingRows$Maker" "marks" "LTellingRows$Marks;", Cond.fieldLink RX2 9 "TellingRows$Maker" "alike" "[I", Cond.methodLink RX2 19 yX3_clear]
def wsX10_may_r2 : List Cond := [Cond.instanceMethod yX3_clear, Cond.selects RX3 yX3_clear yX3_clear, Cond.initialized RX3, Cond.code yX3_clear cX3_clear 1 none, Cond.fieldLink RX3 10 "TellingRows$Marks" "marks" "[I", Cond.methodLink RX3 16 yJ7_fill_53178, Cond.static yJ7_fill_53178, Cond.initialized RJ7, Cond.code yJ7_fill_53178 cJ7_fill_53178 4 none, Cond.methodLink RX2 24 yJ7_fill_53178, Cond.methodLink RX2 39 yX2_due, Cond.instanceMethod yX2_due, Cond.selects RX2 yX2_due yX2_due, Cond.code yX2_due cX2_due 4 (some .int), Cond.fieldLink RX2 69 "TellingRows$1" "$SwitchMap$TellingRows$Sort" "[I", Cond.methodLink RX2 74 ⟨"TellingRows$Sort", "ordinal", "()I"⟩, Cond.sameMethod "TellingRows$Sort" "java/lang/Enum" "ordinal" "()I", Cond.selects RX7 ⟨"TellingRows$Sort", "ordinal", "()I"⟩ yJx29ce0_ordinal_8abf5, Cond.instanceMethod yJx29ce0_ordinal_8abf5, Cond.initialized RJx29ce0, Cond.code yJx29ce0_ordinal_8abf5 cJx29ce0_ordinal_8abf5 1 (some .int), Cond.fieldLink RJx29ce0 7 "java/lang/Enum" "ordinal" "I", Cond.methodLink RX2 79 yX2_reach, Cond.instanceMethod yX2_reach]
def wsX10_may_r3 : List Cond := [Cond.selects RX2 yX2_reach yX2_reach, Cond.code yX2_reach cX2_reach 6 (some .int), Cond.methodLink RX2 83 yX2_fold, Cond.instanceMethod yX2_fold, Cond.selects RX2 yX2_fold yX2_fold, Cond.code yX2_fold cX2_fold 4 (some .int), Cond.methodLink RX2 86 yX2_back, Cond.instanceMethod yX2_back, Cond.selects RX2 yX2_back yX2_back, Cond.code yX2_back cX2_back 4 (some .int), Cond.methodLink RX2 102 yX3_of, Cond.instanceMethod yX3_of, Cond.selects RX3 yX3_of yX3_of, Cond.code yX3_of cX3_of 2 (some .int), Cond.methodLink RX2 105 yX3_put, Cond.instanceMethod yX3_put, Cond.selects RX3 yX3_put yX3_put, Cond.code yX3_put cX3_put 3 none, Cond.methodLink RX2 90 yX2_again, Cond.instanceMethod yX2_again, Cond.selects RX2 yX2_again yX2_again, Cond.code yX2_again cX2_again 5 (some .int), Cond.methodLink RX2 109 Lib.Math.max.name, Cond.static Lib.Math.max.name]
def wsX10_may_r4 : List Cond := [Cond.initialized "java/lang/Math", Cond.code Lib.Math.max.name Lib.Math.max.code 2 (some .int), Cond.methodLink RX2 93 yX2_sum, Cond.instanceMethod yX2_sum, Cond.selects RX2 yX2_sum yX2_sum, Cond.code yX2_sum cX2_sum 5 (some .int), Cond.constant RX2 118 (60000), Cond.methodLink RX2 114 yX3_raise, Cond.instanceMethod yX3_raise, Cond.selects RX3 yX3_raise yX3_raise, Cond.code yX3_raise cX3_raise 2 none, Cond.methodLink RX2 96 yX2_soFar, Cond.instanceMethod yX2_soFar, Cond.selects RX2 yX2_soFar yX2_soFar, Cond.code yX2_soFar cX2_soFar 2 (some .int), Cond.methodLink RX2 99 yX2_free, Cond.instanceMethod yX2_free, Cond.selects RX2 yX2_free yX2_free, Cond.code yX2_free cX2_free 4 (some .int), Cond.methodLink RX2 47 yX6_size, Cond.instanceMethod yX6_size, Cond.selects RX6 yX6_size yX6_size, Cond.initialized RX6, Cond.code yX6_size cX6_size 1 (some .int)]
def wsX10_may_r5 : List Cond := [Cond.fieldLink RX6 21 "TellingRows$Sequence" "size" "I", Cond.methodLink RX2 53 yX6_get, Cond.instanceMethod yX6_get, Cond.selects RX6 yX6_get yX6_get, Cond.code yX6_get cX6_get 2 (some .int), Cond.fieldLink RX6 15 "TellingRows$Sequence" "items" "[I", Cond.static yX10_isNumber, Cond.code yX10_isNumber cX10_isNumber 1 (some .boolean), Cond.constant RX10 201 (60000), Cond.methodLink RX10 75 yX6_size, Cond.methodLink RX10 127 yX5_numberAt, Cond.instanceMethod yX5_numberAt, Cond.selects RX5 yX5_numberAt yX5_numberAt, Cond.initialized RX5, Cond.code yX5_numberAt cX5_numberAt 2 (some .int), Cond.fieldLink RX5 51 "TellingRows$Row" "length" "I", Cond.fieldLink RX5 20 "TellingRows$Row" "numbers" "[I", Cond.methodLink RX10 120 yX6_get]
def wsX10_may : List Cond := .code yX10_may cX10_may 3 (some .int) :: ((wsX10_may_r1 ++ (wsX10_may_r2 ++ (wsX10_may_r3 ++ (wsX10_may_r4 ++ wsX10_may_r5)))) ++ wsX100 ++ wsX50 ++ wsX20 ++ wsX30 ++ wsX60)
def wsX10_figure : List Cond := .code yX10_figure cX10_figure 2 (some .int) :: ([.fieldLink RX10 50 "TellingRows" "figures" "LTellingRows$Sequence;", .methodLink RX10 79 yX6_add, .instanceMethod yX6_add, .selects RX6 yX6_add yX6_add, .initialized RX6, .code yX6_add cX6_add 2 (some .boolean), .fieldLink RX6 21 "TellingRows$Sequence" "size" "I", .fieldLink RX6 15 "TellingRows$Sequence" "items" "[I", .methodLink RX10 75 yX6_size, .instanceMethod yX6_size, .selects RX6 yX6_size yX6_size, .code yX6_size cX6_size 1 (some .int)] ++ wsX100 ++ wsX60)
def wsX10_noFigures : List Cond := .code yX10_noFigures cX10_noFigures 1 (some .int) :: ([.fieldLink RX10 50 "TellingRows" "figures" "LTellingRows$Sequence;", .methodLink RX10 83 yX6_clear, .instanceMethod yX6_clear, .selects RX6 yX6_clear yX6_clear, .initialized RX6, .code yX6_clear cX6_clear 2 (some .int), .fieldLink RX6 21 "TellingRows$Sequence" "size" "I"] ++ wsX100 ++ wsX60)
def wsX10_part : List Cond := .code yX10_part cX10_part 2 (some .int) :: ([.methodLink RX10 75 yX6_size, .instanceMethod yX6_size, .selects RX6 yX6_size yX6_size, .initialized RX6, .code yX6_size cX6_size 1 (some .int), .fieldLink RX6 21 "TellingRows$Sequence" "size" "I", .methodLink RX10 120 yX6_get, .instanceMethod yX6_get, .selects RX6 yX6_get yX6_get, .code yX6_get cX6_get 2 (some .int), .fieldLink RX6 15 "TellingRows$Sequence" "items" "[I"] ++ wsX60)
def wsX10_said_r1 : List Cond := [Cond.fieldLink RX10 56 "TellingRows" "speaker" "LTellingRows$Speaker;", Cond.fieldLink RX10 50 "TellingRows" "figures" "LTellingRows$Sequence;", Cond.methodLink RX10 168 yX8_speak, Cond.instanceMethod yX8_speak, Cond.selects RX8 yX8_speak yX8_speak, Cond.initialized RX8, Cond.code yX8_speak cX8_speak 8 (some (.object "TellingRows$Sequence")), Cond.fieldLink RX8 14 "TellingRows$Speaker" "one" "LTellingRows$Sequence;", Cond.fieldLink RX8 20 "TellingRows$Speaker" "other" "LTellingRows$Sequence;", Cond.methodLink RX8 23 yX6_copy, Cond.instanceMethod yX6_copy, Cond.selects RX6 yX6_copy yX6_copy, Cond.initialized RX6, Cond.code yX6_copy cX6_copy 3 none, Cond.fieldLink RX6 21 "TellingRows$Sequence" "size" "I", Cond.methodLink RX6 25 yX6_get, Cond.instanceMethod yX6_get, Cond.selects RX6 yX6_get yX6_get, Cond.code yX6_get cX6_get 2 (some .int), Cond.fieldLink RX6 15 "TellingRows$Sequence" "items" "[I", Cond.methodLink RX6 29 yX6_add, Cond.instanceMethod yX6_add, Cond.selects RX6 yX6_add yX6_add, Cond.code yX6_add cX6_add 2 (some .boolean)]
def wsX10_said_r2 : List Cond := [Cond.methodLink RX8 27 yX8_tally, Cond.static yX8_tally, Cond.code yX8_tally cX8_tally 5 (some .boolean), Cond.methodLink RX8 37 yX6_clear, Cond.instanceMethod yX6_clear, Cond.selects RX6 yX6_clear yX6_clear, Cond.code yX6_clear cX6_clear 2 (some .int), Cond.methodLink RX8 41 yX6_size, Cond.instanceMethod yX6_size, Cond.selects RX6 yX6_size yX6_size, Cond.code yX6_size cX6_size 1 (some .int), Cond.methodLink RX8 44 yX6_get, Cond.methodLink RX8 48 yX6_add, Cond.methodLink RX8 31 yX8_say, Cond.static yX8_say, Cond.code yX8_say cX8_say 4 (some .boolean), Cond.methodLink RX10 172 yX10_part, Cond.static yX10_part, Cond.initialized RX10, Cond.code yX10_part cX10_part 2 (some .int), Cond.methodLink RX10 75 yX6_size, Cond.methodLink RX10 120 yX6_get]
def wsX10_said : List Cond := .code yX10_said cX10_said 4 (some .int) :: ((wsX10_said_r1 ++ wsX10_said_r2) ++ wsX100 ++ wsX80 ++ wsX60)
def wsX10_unsaid_r1 : List Cond := [Cond.fieldLink RX10 56 "TellingRows" "speaker" "LTellingRows$Speaker;", Cond.fieldLink RX10 50 "TellingRows" "figures" "LTellingRows$Sequence;", Cond.methodLink RX10 176 yX8_takeBack, Cond.instanceMethod yX8_takeBack, Cond.selects RX8 yX8_takeBack yX8_takeBack, Cond.initialized RX8, Cond.code yX8_takeBack cX8_takeBack 2 (some (.object "TellingRows$Sequence")), Cond.fieldLink RX8 14 "TellingRows$Speaker" "one" "LTellingRows$Sequence;", Cond.methodLink RX8 34 yX8_unsay, Cond.static yX8_unsay, Cond.code yX8_unsay cX8_unsay 5 (some .boolean), Cond.methodLink RX8 37 yX6_clear, Cond.instanceMethod yX6_clear, Cond.selects RX6 yX6_clear yX6_clear, Cond.initialized RX6, Cond.code yX6_clear cX6_clear 2 (some .int), Cond.fieldLink RX6 21 "TellingRows$Sequence" "size" "I", Cond.methodLink RX8 41 yX6_size, Cond.instanceMethod yX6_size, Cond.selects RX6 yX6_size yX6_size, Cond.code yX6_size cX6_size 1 (some .int), Cond.methodLink RX8 44 yX6_get, Cond.instanceMethod yX6_get, Cond.selects RX6 yX6_get yX6_get]
def wsX10_unsaid_r2 : List Cond := [Cond.code yX6_get cX6_get 2 (some .int), Cond.fieldLink RX6 15 "TellingRows$Sequence" "items" "[I", Cond.methodLink RX8 48 yX6_add, Cond.instanceMethod yX6_add, Cond.selects RX6 yX6_add yX6_add, Cond.code yX6_add cX6_add 2 (some .boolean), Cond.methodLink RX10 172 yX10_part, Cond.static yX10_part, Cond.initialized RX10, Cond.code yX10_part cX10_part 2 (some .int), Cond.methodLink RX10 75 yX6_size, Cond.methodLink RX10 120 yX6_get]
def wsX10_unsaid : List Cond := .code yX10_unsaid cX10_unsaid 2 (some .int) :: ((wsX10_unsaid_r1 ++ wsX10_unsaid_r2) ++ wsX100 ++ wsX80 ++ wsX60)
def wsX10_backs_r1 : List Cond := [Cond.fieldLink RX10 56 "TellingRows" "speaker" "LTellingRows$Speaker;", Cond.fieldLink RX10 50 "TellingRows" "figures" "LTellingRows$Sequence;", Cond.methodLink RX10 180 yX8_mostBacks, Cond.instanceMethod yX8_mostBacks, Cond.selects RX8 yX8_mostBacks yX8_mostBacks, Cond.initialized RX8, Cond.code yX8_mostBacks cX8_mostBacks 6 (some .int), Cond.fieldLink RX8 14 "TellingRows$Speaker" "one" "LTellingRows$Sequence;", Cond.fieldLink RX8 20 "TellingRows$Speaker" "other" "LTellingRows$Sequence;", Cond.methodLink RX8 23 yX6_copy, Cond.instanceMethod yX6_copy, Cond.selects RX6 yX6_copy yX6_copy, Cond.initialized RX6, Cond.code yX6_copy cX6_copy 3 none, Cond.fieldLink RX6 21 "TellingRows$Sequence" "size" "I", Cond.methodLink RX6 25 yX6_get, Cond.instanceMethod yX6_get, Cond.selects RX6 yX6_get yX6_get, Cond.code yX6_get cX6_get 2 (some .int), Cond.fieldLink RX6 15 "TellingRows$Sequence" "items" "[I", Cond.methodLink RX6 29 yX6_add, Cond.instanceMethod yX6_add, Cond.selects RX6 yX6_add yX6_add, Cond.code yX6_add cX6_add 2 (some .boolean)]
def wsX10_backs_r2 : List Cond := [Cond.methodLink RX8 34 yX8_unsay, Cond.static yX8_unsay, Cond.code yX8_unsay cX8_unsay 5 (some .boolean), Cond.methodLink RX8 37 yX6_clear, Cond.instanceMethod yX6_clear, Cond.selects RX6 yX6_clear yX6_clear, Cond.code yX6_clear cX6_clear 2 (some .int), Cond.methodLink RX8 41 yX6_size, Cond.instanceMethod yX6_size, Cond.selects RX6 yX6_size yX6_size, Cond.code yX6_size cX6_size 1 (some .int), Cond.methodLink RX8 44 yX6_get, Cond.methodLink RX8 48 yX6_add]
def wsX10_backs : List Cond := .code yX10_backs cX10_backs 1 (some .int) :: ((wsX10_backs_r1 ++ wsX10_backs_r2) ++ wsX100 ++ wsX80 ++ wsX60)
def wsX10_round_r1 : List Cond := [Cond.fieldLink RX10 63 "TellingRows" "rounds" "LTellingRows$Rounds;", Cond.fieldLink RX10 50 "TellingRows" "figures" "LTellingRows$Sequence;", Cond.methodLink RX10 184 yX4_find, Cond.instanceMethod yX4_find, Cond.selects RX4 yX4_find yX4_find, Cond.initialized RX4, Cond.code yX4_find cX4_find 4 (some .boolean), Cond.fieldLink RX4 11 "TellingRows$Rounds" "steps" "[LTellingRows$Sequence;", Cond.fieldLink RX4 20 "TellingRows$Rounds" "tail" "I", Cond.fieldLink RX4 24 "TellingRows$Rounds" "length" "I", Cond.methodLink RX4 27 yX6_copy, Cond.instanceMethod yX6_copy, Cond.selects RX6 yX6_copy yX6_copy, Cond.initialized RX6, Cond.code yX6_copy cX6_copy 3 none, Cond.fieldLink RX6 21 "TellingRows$Sequence" "size" "I", Cond.methodLink RX6 25 yX6_get, Cond.instanceMethod yX6_get, Cond.selects RX6 yX6_get yX6_get, Cond.code yX6_get cX6_get 2 (some .int), Cond.fieldLink RX6 15 "TellingRows$Sequence" "items" "[I", Cond.methodLink RX6 29 yX6_add, Cond.instanceMethod yX6_add, Cond.selects RX6 yX6_add yX6_add]
def wsX10_round_r2 : List Cond := [Cond.code yX6_add cX6_add 2 (some .boolean), Cond.methodLink RX4 31 yX8_tally, Cond.static yX8_tally, Cond.initialized RX8, Cond.code yX8_tally cX8_tally 5 (some .boolean), Cond.methodLink RX8 37 yX6_clear, Cond.instanceMethod yX6_clear, Cond.selects RX6 yX6_clear yX6_clear, Cond.code yX6_clear cX6_clear 2 (some .int), Cond.methodLink RX8 41 yX6_size, Cond.instanceMethod yX6_size, Cond.selects RX6 yX6_size yX6_size, Cond.code yX6_size cX6_size 1 (some .int), Cond.methodLink RX8 44 yX6_get, Cond.methodLink RX8 48 yX6_add, Cond.methodLink RX4 37 yX6_same, Cond.instanceMethod yX6_same, Cond.selects RX6 yX6_same yX6_same, Cond.code yX6_same cX6_same 3 (some .boolean), Cond.methodLink RX10 188 yX4_tail, Cond.instanceMethod yX4_tail, Cond.selects RX4 yX4_tail yX4_tail, Cond.code yX4_tail cX4_tail 1 (some .int), Cond.methodLink RX10 190 yX4_length]
def wsX10_round_r3 : List Cond := [Cond.instanceMethod yX4_length, Cond.selects RX4 yX4_length yX4_length, Cond.code yX4_length cX4_length 1 (some .int)]
def wsX10_round : List Cond := .code yX10_round cX10_round 2 (some .int) :: ((wsX10_round_r1 ++ (wsX10_round_r2 ++ wsX10_round_r3)) ++ wsX100 ++ wsX40 ++ wsX60)
def wsX10_tellers_r1 : List Cond := [Cond.constantLong RX10 192 (-1), Cond.fieldLink RX10 70 "TellingRows" "tellerSearch" "LTellingRows$TellerSearch;", Cond.methodLink RX10 194 yX9_search, Cond.instanceMethod yX9_search, Cond.selects RX9 yX9_search yX9_search, Cond.initialized RX9, Cond.code yX9_search cX9_search 3 (some .int), Cond.fieldLink RX9 19 "TellingRows$TellerSearch" "wanted" "I", Cond.fieldLink RX9 23 "TellingRows$TellerSearch" "found" "I", Cond.constantLong RX9 26 (-4), Cond.fieldLink RX9 15 "TellingRows$TellerSearch" "answer" "J", Cond.methodLink RX9 28 yX9_fill, Cond.static yX9_fill, Cond.code yX9_fill cX9_fill 6 none, Cond.fieldLink RX9 9 "TellingRows$TellerSearch" "figures" "[I", Cond.methodLink RX9 32 yX9_tells, Cond.instanceMethod yX9_tells, Cond.selects RX9 yX9_tells yX9_tells, Cond.code yX9_tells cX9_tells 5 (some .boolean), Cond.methodLink RX9 36 yX9_keep, Cond.instanceMethod yX9_keep, Cond.selects RX9 yX9_keep yX9_keep, Cond.code yX9_keep cX9_keep 3 none, Cond.constantLong RX9 40 (10)]
def wsX10_tellers_r2 : List Cond := [Cond.methodLink RX10 197 yX9_answer, Cond.instanceMethod yX9_answer, Cond.selects RX9 yX9_answer yX9_answer, Cond.code yX9_answer cX9_answer 1 (some .long)]
def wsX10_tellers : List Cond := .code yX10_tellers cX10_tellers 4 (some .long) :: ((wsX10_tellers_r1 ++ wsX10_tellers_r2) ++ wsX100 ++ wsX90)
def wsX10_count : List Cond := .code yX10_count cX10_count 2 (some .int) :: ([.fieldLink RX10 36 "TellingRows" "text" "LTellingRows$Sequence;", .fieldLink RX10 47 "TellingRows" "numbers" "LTellingRows$Sequence;", .fieldLink RX10 50 "TellingRows" "figures" "LTellingRows$Sequence;", .methodLink RX10 75 yX6_size, .instanceMethod yX6_size, .selects RX6 yX6_size yX6_size, .initialized RX6, .code yX6_size cX6_size 1 (some .int), .fieldLink RX6 21 "TellingRows$Sequence" "size" "I"] ++ wsX100 ++ wsX60)
def wsX11_init : List Cond := .code yX11_init cX11_init 2 none :: ([.methodLink RX11 1 objectInit, .instanceMethod objectInit, .code objectInit ⟨#[0xb1]⟩ 1 none, .arrayClass .byte, .fieldLink RX11 7 "TellingRowsModel" "text" "[B", .arrayClass .int, .fieldLink RX11 13 "TellingRowsModel" "law" "[I", .fieldLink RX11 17 "TellingRowsModel" "read" "[I", .fieldLink RX11 20 "TellingRowsModel" "laid" "I", .fieldLink RX11 24 "TellingRowsModel" "row" "[I", .constant RX11 27 (60001), .fieldLink RX11 28 "TellingRowsModel" "seen" "[I", .fieldLink RX11 31 "TellingRowsModel" "number" "[I", .fieldLink RX11 34 "TellingRowsModel" "figure" "[I", .fieldLink RX11 37 "TellingRowsModel" "line" "[I", .fieldLink RX11 40 "TellingRowsModel" "other" "[I", .fieldLink RX11 43 "TellingRowsModel" "stepMany" "[I", .fieldLink RX11 46 "TellingRowsModel" "step" "[I", .fieldLink RX11 49 "TellingRowsModel" "digit" "[I", .arrayClass .boolean, .fieldLink RX11 52 "TellingRowsModel" "isLaid" "[Z"] ++ wsX110)
def wsX11_in : List Cond := .code yX11_in cX11_in 6 (some .boolean) :: ([])
def wsX11_write : List Cond := .code yX11_write cX11_write 5 (some .int) :: ([.constantLong RX11 56 (8), .fieldLink RX11 62 "TellingRowsModel" "length" "I", .fieldLink RX11 7 "TellingRowsModel" "text" "[B", .methodLink RX11 58 yX11_in, .static yX11_in, .initialized RX11, .code yX11_in cX11_in 6 (some .boolean)] ++ wsX110)
def wsX11_wipe : List Cond := .code yX11_wipe cX11_wipe 2 (some .int) :: ([.fieldLink RX11 62 "TellingRowsModel" "length" "I"] ++ wsX110)
def wsX11_is : List Cond := .code yX11_is cX11_is 2 (some .boolean) :: ([.fieldLink RX11 65 "TellingRowsModel" "at" "I", .fieldLink RX11 62 "TellingRowsModel" "length" "I", .fieldLink RX11 7 "TellingRowsModel" "text" "[B"] ++ wsX110)
def wsX11_oneOrTwo : List Cond := .code yX11_oneOrTwo cX11_oneOrTwo 3 (some .int) :: ([.fieldLink RX11 65 "TellingRowsModel" "at" "I", .fieldLink RX11 62 "TellingRowsModel" "length" "I", .fieldLink RX11 7 "TellingRowsModel" "text" "[B", .constantLong RX11 68 (48), .constantLong RX11 70 (57), .constantLong RX11 72 (2), .methodLink RX11 58 yX11_in, .static yX11_in, .initialized RX11, .code yX11_in cX11_in 6 (some .boolean)] ++ wsX110)
def wsX11_isItem : List Cond := .code yX11_isItem cX11_isItem 7 (some .boolean) :: ([.fieldLink RX11 65 "TellingRowsModel" "at" "I", .constantLong RX11 82 (3), .constantLong RX11 84 (6), .fieldLink RX11 17 "TellingRowsModel" "read" "[I", .fieldLink RX11 86 "TellingRowsModel" "readItems" "I", .methodLink RX11 74 yX11_is, .instanceMethod yX11_is, .selects RX11 yX11_is yX11_is, .initialized RX11, .code yX11_is cX11_is 2 (some .boolean), .fieldLink RX11 62 "TellingRowsModel" "length" "I", .fieldLink RX11 7 "TellingRowsModel" "text" "[B", .methodLink RX11 78 yX11_oneOrTwo, .instanceMethod yX11_oneOrTwo, .selects RX11 yX11_oneOrTwo yX11_oneOrTwo, .code yX11_oneOrTwo cX11_oneOrTwo 3 (some .int), .constantLong RX11 68 (48), .constantLong RX11 70 (57), .constantLong RX11 72 (2), .methodLink RX11 58 yX11_in, .static yX11_in, .code yX11_in cX11_in 6 (some .boolean)] ++ wsX110)
def wsX11_fault_r1 : List Cond := [Cond.fieldLink RX11 65 "TellingRowsModel" "at" "I", Cond.fieldLink RX11 86 "TellingRowsModel" "readItems" "I", Cond.fieldLink RX11 17 "TellingRowsModel" "read" "[I", Cond.fieldLink RX11 13 "TellingRowsModel" "law" "[I", Cond.fieldLink RX11 62 "TellingRowsModel" "length" "I", Cond.methodLink RX11 89 yX11_isItem, Cond.instanceMethod yX11_isItem, Cond.selects RX11 yX11_isItem yX11_isItem, Cond.initialized RX11, Cond.code yX11_isItem cX11_isItem 7 (some .boolean), Cond.constantLong RX11 82 (3), Cond.constantLong RX11 84 (6), Cond.methodLink RX11 74 yX11_is, Cond.instanceMethod yX11_is, Cond.selects RX11 yX11_is yX11_is, Cond.code yX11_is cX11_is 2 (some .boolean), Cond.fieldLink RX11 7 "TellingRowsModel" "text" "[B", Cond.methodLink RX11 78 yX11_oneOrTwo, Cond.instanceMethod yX11_oneOrTwo, Cond.selects RX11 yX11_oneOrTwo yX11_oneOrTwo, Cond.code yX11_oneOrTwo cX11_oneOrTwo 3 (some .int), Cond.constantLong RX11 68 (48), Cond.constantLong RX11 70 (57), Cond.constantLong RX11 72 (2)]
def wsX11_fault_r2 : List Cond := [Cond.methodLink RX11 58 yX11_in, Cond.static yX11_in, Cond.code yX11_in cX11_in 6 (some .boolean)]
def wsX11_fault : List Cond := .code yX11_fault cX11_fault 2 (some .int) :: ((wsX11_fault_r1 ++ wsX11_fault_r2) ++ wsX110)
def wsX11_lay_r1 : List Cond := [Cond.fieldLink RX11 13 "TellingRowsModel" "law" "[I", Cond.fieldLink RX11 17 "TellingRowsModel" "read" "[I", Cond.fieldLink RX11 20 "TellingRowsModel" "laid" "I", Cond.fieldLink RX11 86 "TellingRowsModel" "readItems" "I", Cond.methodLink RX11 93 yX11_fault, Cond.instanceMethod yX11_fault, Cond.selects RX11 yX11_fault yX11_fault, Cond.initialized RX11, Cond.code yX11_fault cX11_fault 2 (some .int), Cond.fieldLink RX11 65 "TellingRowsModel" "at" "I", Cond.fieldLink RX11 62 "TellingRowsModel" "length" "I", Cond.methodLink RX11 89 yX11_isItem, Cond.instanceMethod yX11_isItem, Cond.selects RX11 yX11_isItem yX11_isItem, Cond.code yX11_isItem cX11_isItem 7 (some .boolean), Cond.constantLong RX11 82 (3), Cond.constantLong RX11 84 (6), Cond.methodLink RX11 74 yX11_is, Cond.instanceMethod yX11_is, Cond.selects RX11 yX11_is yX11_is, Cond.code yX11_is cX11_is 2 (some .boolean), Cond.fieldLink RX11 7 "TellingRowsModel" "text" "[B", Cond.methodLink RX11 78 yX11_oneOrTwo, Cond.instanceMethod yX11_oneOrTwo]
def wsX11_lay_r2 : List Cond := [Cond.selects RX11 yX11_oneOrTwo yX11_oneOrTwo, Cond.code yX11_oneOrTwo cX11_oneOrTwo 3 (some .int), Cond.constantLong RX11 68 (48), Cond.constantLong RX11 70 (57), Cond.constantLong RX11 72 (2), Cond.methodLink RX11 58 yX11_in, Cond.static yX11_in, Cond.code yX11_in cX11_in 6 (some .boolean)]
def wsX11_lay : List Cond := .code yX11_lay cX11_lay 2 (some .int) :: ((wsX11_lay_r1 ++ wsX11_lay_r2) ++ wsX110)
def wsX11_isRegister : List Cond := .code yX11_isRegister cX11_isRegister 1 (some .boolean) :: ([.constantLong RX11 82 (3), .methodLink RX11 58 yX11_in, .static yX11_in, .initialized RX11, .code yX11_in cX11_in 6 (some .boolean)])
def wsX11_told : List Cond := .code yX11_told cX11_told 3 (some .int) :: ([.constantLong RX11 99 (7), .fieldLink RX11 13 "TellingRowsModel" "law" "[I", .methodLink RX11 96 yX11_isRegister, .static yX11_isRegister, .initialized RX11, .code yX11_isRegister cX11_isRegister 1 (some .boolean), .constantLong RX11 82 (3), .methodLink RX11 58 yX11_in, .static yX11_in, .code yX11_in cX11_in 6 (some .boolean)] ++ wsX110)
def wsX11_comes : List Cond := .code yX11_comes cX11_comes 5 none :: ([.fieldLink RX11 28 "TellingRowsModel" "seen" "[I", .fieldLink RX11 24 "TellingRowsModel" "row" "[I", .constant RX11 104 (60000)] ++ wsX110)
def wsX11_sum : List Cond := .code yX11_sum cX11_sum 3 (some .int) :: ([.fieldLink RX11 101 "TellingRowsModel" "many" "I", .fieldLink RX11 24 "TellingRowsModel" "row" "[I", .constant RX11 104 (60000), .methodLink RX11 58 yX11_in, .static yX11_in, .initialized RX11, .code yX11_in cX11_in 6 (some .boolean)] ++ wsX110)
def wsX11_again : List Cond := .code yX11_again cX11_again 5 (some .int) :: ([.fieldLink RX11 24 "TellingRowsModel" "row" "[I"] ++ wsX110)
def wsX11_free : List Cond := .code yX11_free cX11_free 4 (some .int) :: ([.fieldLink RX11 40 "TellingRowsModel" "other" "[I", .fieldLink RX11 24 "TellingRowsModel" "row" "[I", .methodLink RX11 58 yX11_in, .static yX11_in, .initialized RX11, .code yX11_in cX11_in 6 (some .boolean)] ++ wsX110)
def wsX11_next : List Cond := .code yX11_next cX11_next 5 (some .int) :: ([.fieldLink RX11 101 "TellingRowsModel" "many" "I", .fieldLink RX11 24 "TellingRowsModel" "row" "[I", .fieldLink RX11 28 "TellingRowsModel" "seen" "[I", .constant RX11 104 (60000), .methodLink RX11 113 yX11_sum, .instanceMethod yX11_sum, .selects RX11 yX11_sum yX11_sum, .initialized RX11, .code yX11_sum cX11_sum 3 (some .int), .methodLink RX11 58 yX11_in, .static yX11_in, .code yX11_in cX11_in 6 (some .boolean), .methodLink RX11 117 yX11_again, .instanceMethod yX11_again, .selects RX11 yX11_again yX11_again, .code yX11_again cX11_again 5 (some .int), .methodLink RX11 120 yX11_free, .instanceMethod yX11_free, .selects RX11 yX11_free yX11_free, .code yX11_free cX11_free 4 (some .int), .fieldLink RX11 40 "TellingRowsModel" "other" "[I"] ++ wsX110)
def wsX11_lays_r1 : List Cond := [Cond.fieldLink RX11 20 "TellingRowsModel" "laid" "I", Cond.fieldLink RX11 13 "TellingRowsModel" "law" "[I", Cond.fieldLink RX11 101 "TellingRowsModel" "many" "I", Cond.constant RX11 104 (60000), Cond.fieldLink RX11 28 "TellingRowsModel" "seen" "[I", Cond.fieldLink RX11 24 "TellingRowsModel" "row" "[I", Cond.methodLink RX11 105 yX11_comes, Cond.instanceMethod yX11_comes, Cond.selects RX11 yX11_comes yX11_comes, Cond.initialized RX11, Cond.code yX11_comes cX11_comes 5 none, Cond.methodLink RX11 109 yX11_next, Cond.instanceMethod yX11_next, Cond.selects RX11 yX11_next yX11_next, Cond.code yX11_next cX11_next 5 (some .int), Cond.methodLink RX11 113 yX11_sum, Cond.instanceMethod yX11_sum, Cond.selects RX11 yX11_sum yX11_sum, Cond.code yX11_sum cX11_sum 3 (some .int), Cond.methodLink RX11 58 yX11_in, Cond.static yX11_in, Cond.code yX11_in cX11_in 6 (some .boolean), Cond.methodLink RX11 117 yX11_again, Cond.instanceMethod yX11_again]
def wsX11_lays_r2 : List Cond := [Cond.selects RX11 yX11_again yX11_again, Cond.code yX11_again cX11_again 5 (some .int), Cond.methodLink RX11 120 yX11_free, Cond.instanceMethod yX11_free, Cond.selects RX11 yX11_free yX11_free, Cond.code yX11_free cX11_free 4 (some .int), Cond.fieldLink RX11 40 "TellingRowsModel" "other" "[I"]
def wsX11_lays : List Cond := .code yX11_lays cX11_lays 4 none :: ((wsX11_lays_r1 ++ wsX11_lays_r2) ++ wsX110)
def wsX11_at_r1 : List Cond := [Cond.constantLong RX11 123 (1999), Cond.fieldLink RX11 101 "TellingRowsModel" "many" "I", Cond.fieldLink RX11 24 "TellingRowsModel" "row" "[I", Cond.methodLink RX11 96 yX11_isRegister, Cond.static yX11_isRegister, Cond.initialized RX11, Cond.code yX11_isRegister cX11_isRegister 1 (some .boolean), Cond.constantLong RX11 82 (3), Cond.methodLink RX11 58 yX11_in, Cond.static yX11_in, Cond.code yX11_in cX11_in 6 (some .boolean), Cond.methodLink RX11 125 yX11_lays, Cond.instanceMethod yX11_lays, Cond.selects RX11 yX11_lays yX11_lays, Cond.code yX11_lays cX11_lays 4 none, Cond.fieldLink RX11 20 "TellingRowsModel" "laid" "I", Cond.fieldLink RX11 13 "TellingRowsModel" "law" "[I", Cond.constant RX11 104 (60000), Cond.fieldLink RX11 28 "TellingRowsModel" "seen" "[I", Cond.methodLink RX11 105 yX11_comes, Cond.instanceMethod yX11_comes, Cond.selects RX11 yX11_comes yX11_comes, Cond.code yX11_comes cX11_comes 5 none, Cond.methodLink RX11 109 yX11_next]
def wsX11_at_r2 : List Cond := [Cond.instanceMethod yX11_next, Cond.selects RX11 yX11_next yX11_next, Cond.code yX11_next cX11_next 5 (some .int), Cond.methodLink RX11 113 yX11_sum, Cond.instanceMethod yX11_sum, Cond.selects RX11 yX11_sum yX11_sum, Cond.code yX11_sum cX11_sum 3 (some .int), Cond.methodLink RX11 117 yX11_again, Cond.instanceMethod yX11_again, Cond.selects RX11 yX11_again yX11_again, Cond.code yX11_again cX11_again 5 (some .int), Cond.methodLink RX11 120 yX11_free, Cond.instanceMethod yX11_free, Cond.selects RX11 yX11_free yX11_free, Cond.code yX11_free cX11_free 4 (some .int), Cond.fieldLink RX11 40 "TellingRowsModel" "other" "[I"]
def wsX11_at : List Cond := .code yX11_at cX11_at 3 (some .int) :: ((wsX11_at_r1 ++ wsX11_at_r2) ++ wsX110)
def wsX11_first_r1 : List Cond := [Cond.constantLong RX11 129 (60000), Cond.fieldLink RX11 101 "TellingRowsModel" "many" "I", Cond.fieldLink RX11 24 "TellingRowsModel" "row" "[I", Cond.methodLink RX11 96 yX11_isRegister, Cond.static yX11_isRegister, Cond.initialized RX11, Cond.code yX11_isRegister cX11_isRegister 1 (some .boolean), Cond.constantLong RX11 82 (3), Cond.methodLink RX11 58 yX11_in, Cond.static yX11_in, Cond.code yX11_in cX11_in 6 (some .boolean), Cond.methodLink RX11 125 yX11_lays, Cond.instanceMethod yX11_lays, Cond.selects RX11 yX11_lays yX11_lays, Cond.code yX11_lays cX11_lays 4 none, Cond.fieldLink RX11 20 "TellingRowsModel" "laid" "I", Cond.fieldLink RX11 13 "TellingRowsModel" "law" "[I", Cond.constant RX11 104 (60000), Cond.fieldLink RX11 28 "TellingRowsModel" "seen" "[I", Cond.methodLink RX11 105 yX11_comes, Cond.instanceMethod yX11_comes, Cond.selects RX11 yX11_comes yX11_comes, Cond.code yX11_comes cX11_comes 5 none, Cond.methodLink RX11 109 yX11_next]
def wsX11_first_r2 : List Cond := [Cond.instanceMethod yX11_next, Cond.selects RX11 yX11_next yX11_next, Cond.code yX11_next cX11_next 5 (some .int), Cond.methodLink RX11 113 yX11_sum, Cond.instanceMethod yX11_sum, Cond.selects RX11 yX11_sum yX11_sum, Cond.code yX11_sum cX11_sum 3 (some .int), Cond.methodLink RX11 117 yX11_again, Cond.instanceMethod yX11_again, Cond.selects RX11 yX11_again yX11_again, Cond.code yX11_again cX11_again 5 (some .int), Cond.methodLink RX11 120 yX11_free, Cond.instanceMethod yX11_free, Cond.selects RX11 yX11_free yX11_free, Cond.code yX11_free cX11_free 4 (some .int), Cond.fieldLink RX11 40 "TellingRowsModel" "other" "[I"]
def wsX11_first : List Cond := .code yX11_first cX11_first 4 (some .int) :: ((wsX11_first_r1 ++ wsX11_first_r2) ++ wsX110)
def wsX11_often_r1 : List Cond := [Cond.constantLong RX11 129 (60000), Cond.constantLong RX11 131 (2000), Cond.fieldLink RX11 101 "TellingRowsModel" "many" "I", Cond.fieldLink RX11 24 "TellingRowsModel" "row" "[I", Cond.methodLink RX11 96 yX11_isRegister, Cond.static yX11_isRegister, Cond.initialized RX11, Cond.code yX11_isRegister cX11_isRegister 1 (some .boolean), Cond.constantLong RX11 82 (3), Cond.methodLink RX11 58 yX11_in, Cond.static yX11_in, Cond.code yX11_in cX11_in 6 (some .boolean), Cond.methodLink RX11 125 yX11_lays, Cond.instanceMethod yX11_lays, Cond.selects RX11 yX11_lays yX11_lays, Cond.code yX11_lays cX11_lays 4 none, Cond.fieldLink RX11 20 "TellingRowsModel" "laid" "I", Cond.fieldLink RX11 13 "TellingRowsModel" "law" "[I", Cond.constant RX11 104 (60000), Cond.fieldLink RX11 28 "TellingRowsModel" "seen" "[I", Cond.methodLink RX11 105 yX11_comes, Cond.instanceMethod yX11_comes, Cond.selects RX11 yX11_comes yX11_comes, Cond.code yX11_comes cX11_comes 5 none]
def wsX11_often_r2 : List Cond := [Cond.methodLink RX11 109 yX11_next, Cond.instanceMethod yX11_next, Cond.selects RX11 yX11_next yX11_next, Cond.code yX11_next cX11_next 5 (some .int), Cond.methodLink RX11 113 yX11_sum, Cond.instanceMethod yX11_sum, Cond.selects RX11 yX11_sum yX11_sum, Cond.code yX11_sum cX11_sum 3 (some .int), Cond.methodLink RX11 117 yX11_again, Cond.instanceMethod yX11_again, Cond.selects RX11 yX11_again yX11_again, Cond.code yX11_again cX11_again 5 (some .int), Cond.methodLink RX11 120 yX11_free, Cond.instanceMethod yX11_free, Cond.selects RX11 yX11_free yX11_free, Cond.code yX11_free cX11_free 4 (some .int), Cond.fieldLink RX11 40 "TellingRowsModel" "other" "[I"]
def wsX11_often : List Cond := .code yX11_often cX11_often 6 (some .int) :: ((wsX11_often_r1 ++ wsX11_often_r2) ++ wsX110)
def wsX11_run_r1 : List Cond := [Cond.constantLong RX11 72 (2), Cond.fieldLink RX11 101 "TellingRowsModel" "many" "I", Cond.fieldLink RX11 24 "TellingRowsModel" "row" "[I", Cond.methodLink RX11 96 yX11_isRegister, Cond.static yX11_isRegister, Cond.initialized RX11, Cond.code yX11_isRegister cX11_isRegister 1 (some .boolean), Cond.constantLong RX11 82 (3), Cond.methodLink RX11 58 yX11_in, Cond.static yX11_in, Cond.code yX11_in cX11_in 6 (some .boolean), Cond.methodLink RX11 125 yX11_lays, Cond.instanceMethod yX11_lays, Cond.selects RX11 yX11_lays yX11_lays, Cond.code yX11_lays cX11_lays 4 none, Cond.fieldLink RX11 20 "TellingRowsModel" "laid" "I", Cond.fieldLink RX11 13 "TellingRowsModel" "law" "[I", Cond.constant RX11 104 (60000), Cond.fieldLink RX11 28 "TellingRowsModel" "seen" "[I", Cond.methodLink RX11 105 yX11_comes, Cond.instanceMethod yX11_comes, Cond.selects RX11 yX11_comes yX11_comes, Cond.code yX11_comes cX11_comes 5 none, Cond.methodLink RX11 109 yX11_next]
def wsX11_run_r2 : List Cond := [Cond.instanceMethod yX11_next, Cond.selects RX11 yX11_next yX11_next, Cond.code yX11_next cX11_next 5 (some .int), Cond.methodLink RX11 113 yX11_sum, Cond.instanceMethod yX11_sum, Cond.selects RX11 yX11_sum yX11_sum, Cond.code yX11_sum cX11_sum 3 (some .int), Cond.methodLink RX11 117 yX11_again, Cond.instanceMethod yX11_again, Cond.selects RX11 yX11_again yX11_again, Cond.code yX11_again cX11_again 5 (some .int), Cond.methodLink RX11 120 yX11_free, Cond.instanceMethod yX11_free, Cond.selects RX11 yX11_free yX11_free, Cond.code yX11_free cX11_free 4 (some .int), Cond.fieldLink RX11 40 "TellingRowsModel" "other" "[I"]
def wsX11_run : List Cond := .code yX11_run cX11_run 7 (some .int) :: ((wsX11_run_r1 ++ wsX11_run_r2) ++ wsX110)
def wsX11_most_r1 : List Cond := [Cond.constantLong RX11 131 (2000), Cond.constantLong RX11 82 (3), Cond.fieldLink RX11 101 "TellingRowsModel" "many" "I", Cond.fieldLink RX11 24 "TellingRowsModel" "row" "[I", Cond.methodLink RX11 96 yX11_isRegister, Cond.static yX11_isRegister, Cond.initialized RX11, Cond.code yX11_isRegister cX11_isRegister 1 (some .boolean), Cond.methodLink RX11 58 yX11_in, Cond.static yX11_in, Cond.code yX11_in cX11_in 6 (some .boolean), Cond.methodLink RX11 125 yX11_lays, Cond.instanceMethod yX11_lays, Cond.selects RX11 yX11_lays yX11_lays, Cond.code yX11_lays cX11_lays 4 none, Cond.fieldLink RX11 20 "TellingRowsModel" "laid" "I", Cond.fieldLink RX11 13 "TellingRowsModel" "law" "[I", Cond.constant RX11 104 (60000), Cond.fieldLink RX11 28 "TellingRowsModel" "seen" "[I", Cond.methodLink RX11 105 yX11_comes, Cond.instanceMethod yX11_comes, Cond.selects RX11 yX11_comes yX11_comes, Cond.code yX11_comes cX11_comes 5 none, Cond.methodLink RX11 109 yX11_next]
def wsX11_most_r2 : List Cond := [Cond.instanceMethod yX11_next, Cond.selects RX11 yX11_next yX11_next, Cond.code yX11_next cX11_next 5 (some .int), Cond.methodLink RX11 113 yX11_sum, Cond.instanceMethod yX11_sum, Cond.selects RX11 yX11_sum yX11_sum, Cond.code yX11_sum cX11_sum 3 (some .int), Cond.methodLink RX11 117 yX11_again, Cond.instanceMethod yX11_again, Cond.selects RX11 yX11_again yX11_again, Cond.code yX11_again cX11_again 5 (some .int), Cond.methodLink RX11 120 yX11_free, Cond.instanceMethod yX11_free, Cond.selects RX11 yX11_free yX11_free, Cond.code yX11_free cX11_free 4 (some .int), Cond.fieldLink RX11 40 "TellingRowsModel" "other" "[I"]
def wsX11_most : List Cond := .code yX11_most cX11_most 11 (some .int) :: ((wsX11_most_r1 ++ wsX11_most_r2) ++ wsX110)
def wsX11_around_r1 : List Cond := [Cond.fieldLink RX11 101 "TellingRowsModel" "many" "I", Cond.fieldLink RX11 24 "TellingRowsModel" "row" "[I", Cond.methodLink RX11 96 yX11_isRegister, Cond.static yX11_isRegister, Cond.initialized RX11, Cond.code yX11_isRegister cX11_isRegister 1 (some .boolean), Cond.constantLong RX11 82 (3), Cond.methodLink RX11 58 yX11_in, Cond.static yX11_in, Cond.code yX11_in cX11_in 6 (some .boolean), Cond.methodLink RX11 125 yX11_lays, Cond.instanceMethod yX11_lays, Cond.selects RX11 yX11_lays yX11_lays, Cond.code yX11_lays cX11_lays 4 none, Cond.fieldLink RX11 20 "TellingRowsModel" "laid" "I", Cond.fieldLink RX11 13 "TellingRowsModel" "law" "[I", Cond.constant RX11 104 (60000), Cond.fieldLink RX11 28 "TellingRowsModel" "seen" "[I", Cond.methodLink RX11 105 yX11_comes, Cond.instanceMethod yX11_comes, Cond.selects RX11 yX11_comes yX11_comes, Cond.code yX11_comes cX11_comes 5 none, Cond.methodLink RX11 109 yX11_next, Cond.instanceMethod yX11_next]
def wsX11_around_r2 : List Cond := [Cond.selects RX11 yX11_next yX11_next, Cond.code yX11_next cX11_next 5 (some .int), Cond.methodLink RX11 113 yX11_sum, Cond.instanceMethod yX11_sum, Cond.selects RX11 yX11_sum yX11_sum, Cond.code yX11_sum cX11_sum 3 (some .int), Cond.methodLink RX11 117 yX11_again, Cond.instanceMethod yX11_again, Cond.selects RX11 yX11_again yX11_again, Cond.code yX11_again cX11_again 5 (some .int), Cond.methodLink RX11 120 yX11_free, Cond.instanceMethod yX11_free, Cond.selects RX11 yX11_free yX11_free, Cond.code yX11_free cX11_free 4 (some .int), Cond.fieldLink RX11 40 "TellingRowsModel" "other" "[I"]
def wsX11_around : List Cond := .code yX11_around cX11_around 5 (some .int) :: ((wsX11_around_r1 ++ wsX11_around_r2) ++ wsX110)
def wsX11_number : List Cond := .code yX11_number cX11_number 2 (some .int) :: ([.constantLong RX11 129 (60000), .fieldLink RX11 133 "TellingRowsModel" "numbers" "I", .fieldLink RX11 31 "TellingRowsModel" "number" "[I", .methodLink RX11 58 yX11_in, .static yX11_in, .initialized RX11, .code yX11_in cX11_in 6 (some .boolean)] ++ wsX110)
def wsX11_noNumbers : List Cond := .code yX11_noNumbers cX11_noNumbers 2 (some .int) :: ([.fieldLink RX11 133 "TellingRowsModel" "numbers" "I"] ++ wsX110)
def wsX11_breaksAt_r1 : List Cond := [Cond.fieldLink RX11 133 "TellingRowsModel" "numbers" "I", Cond.fieldLink RX11 101 "TellingRowsModel" "many" "I", Cond.fieldLink RX11 24 "TellingRowsModel" "row" "[I", Cond.fieldLink RX11 31 "TellingRowsModel" "number" "[I", Cond.methodLink RX11 125 yX11_lays, Cond.instanceMethod yX11_lays, Cond.selects RX11 yX11_lays yX11_lays, Cond.initialized RX11, Cond.code yX11_lays cX11_lays 4 none, Cond.fieldLink RX11 20 "TellingRowsModel" "laid" "I", Cond.fieldLink RX11 13 "TellingRowsModel" "law" "[I", Cond.constant RX11 104 (60000), Cond.fieldLink RX11 28 "TellingRowsModel" "seen" "[I", Cond.methodLink RX11 105 yX11_comes, Cond.instanceMethod yX11_comes, Cond.selects RX11 yX11_comes yX11_comes, Cond.code yX11_comes cX11_comes 5 none, Cond.methodLink RX11 109 yX11_next, Cond.instanceMethod yX11_next, Cond.selects RX11 yX11_next yX11_next, Cond.code yX11_next cX11_next 5 (some .int), Cond.methodLink RX11 113 yX11_sum, Cond.instanceMethod yX11_sum, Cond.selects RX11 yX11_sum yX11_sum]
def wsX11_breaksAt_r2 : List Cond := [Cond.code yX11_sum cX11_sum 3 (some .int), Cond.methodLink RX11 58 yX11_in, Cond.static yX11_in, Cond.code yX11_in cX11_in 6 (some .boolean), Cond.methodLink RX11 117 yX11_again, Cond.instanceMethod yX11_again, Cond.selects RX11 yX11_again yX11_again, Cond.code yX11_again cX11_again 5 (some .int), Cond.methodLink RX11 120 yX11_free, Cond.instanceMethod yX11_free, Cond.selects RX11 yX11_free yX11_free, Cond.code yX11_free cX11_free 4 (some .int), Cond.fieldLink RX11 40 "TellingRowsModel" "other" "[I"]
def wsX11_breaksAt : List Cond := .code yX11_breaksAt cX11_breaksAt 3 (some .int) :: ((wsX11_breaksAt_r1 ++ wsX11_breaksAt_r2) ++ wsX110)
def wsX11_breaks_r1 : List Cond := [Cond.methodLink RX11 96 yX11_isRegister, Cond.static yX11_isRegister, Cond.initialized RX11, Cond.code yX11_isRegister cX11_isRegister 1 (some .boolean), Cond.constantLong RX11 82 (3), Cond.methodLink RX11 58 yX11_in, Cond.static yX11_in, Cond.code yX11_in cX11_in 6 (some .boolean), Cond.methodLink RX11 136 yX11_breaksAt, Cond.instanceMethod yX11_breaksAt, Cond.selects RX11 yX11_breaksAt yX11_breaksAt, Cond.code yX11_breaksAt cX11_breaksAt 3 (some .int), Cond.fieldLink RX11 133 "TellingRowsModel" "numbers" "I", Cond.fieldLink RX11 101 "TellingRowsModel" "many" "I", Cond.fieldLink RX11 24 "TellingRowsModel" "row" "[I", Cond.fieldLink RX11 31 "TellingRowsModel" "number" "[I", Cond.methodLink RX11 125 yX11_lays, Cond.instanceMethod yX11_lays, Cond.selects RX11 yX11_lays yX11_lays, Cond.code yX11_lays cX11_lays 4 none, Cond.fieldLink RX11 20 "TellingRowsModel" "laid" "I", Cond.fieldLink RX11 13 "TellingRowsModel" "law" "[I", Cond.constant RX11 104 (60000), Cond.fieldLink RX11 28 "TellingRowsModel" "seen" "[I"]
def wsX11_breaks_r2 : List Cond := [Cond.methodLink RX11 105 yX11_comes, Cond.instanceMethod yX11_comes, Cond.selects RX11 yX11_comes yX11_comes, Cond.code yX11_comes cX11_comes 5 none, Cond.methodLink RX11 109 yX11_next, Cond.instanceMethod yX11_next, Cond.selects RX11 yX11_next yX11_next, Cond.code yX11_next cX11_next 5 (some .int), Cond.methodLink RX11 113 yX11_sum, Cond.instanceMethod yX11_sum, Cond.selects RX11 yX11_sum yX11_sum, Cond.code yX11_sum cX11_sum 3 (some .int), Cond.methodLink RX11 117 yX11_again, Cond.instanceMethod yX11_again, Cond.selects RX11 yX11_again yX11_again, Cond.code yX11_again cX11_again 5 (some .int), Cond.methodLink RX11 120 yX11_free, Cond.instanceMethod yX11_free, Cond.selects RX11 yX11_free yX11_free, Cond.code yX11_free cX11_free 4 (some .int), Cond.fieldLink RX11 40 "TellingRowsModel" "other" "[I"]
def wsX11_breaks : List Cond := .code yX11_breaks cX11_breaks 2 (some .int) :: ((wsX11_breaks_r1 ++ wsX11_breaks_r2) ++ wsX110)
def wsX11_may_r1 : List Cond := [Cond.methodLink RX11 136 yX11_breaksAt, Cond.instanceMethod yX11_breaksAt, Cond.selects RX11 yX11_breaksAt yX11_breaksAt, Cond.initialized RX11, Cond.code yX11_breaksAt cX11_breaksAt 3 (some .int), Cond.fieldLink RX11 133 "TellingRowsModel" "numbers" "I", Cond.fieldLink RX11 101 "TellingRowsModel" "many" "I", Cond.fieldLink RX11 24 "TellingRowsModel" "row" "[I", Cond.fieldLink RX11 31 "TellingRowsModel" "number" "[I", Cond.methodLink RX11 125 yX11_lays, Cond.instanceMethod yX11_lays, Cond.selects RX11 yX11_lays yX11_lays, Cond.code yX11_lays cX11_lays 4 none, Cond.fieldLink RX11 20 "TellingRowsModel" "laid" "I", Cond.fieldLink RX11 13 "TellingRowsModel" "law" "[I", Cond.constant RX11 104 (60000), Cond.fieldLink RX11 28 "TellingRowsModel" "seen" "[I", Cond.methodLink RX11 105 yX11_comes, Cond.instanceMethod yX11_comes, Cond.selects RX11 yX11_comes yX11_comes, Cond.code yX11_comes cX11_comes 5 none, Cond.methodLink RX11 109 yX11_next, Cond.instanceMethod yX11_next, Cond.selects RX11 yX11_next yX11_next]
def wsX11_may_r2 : List Cond := [Cond.code yX11_next cX11_next 5 (some .int), Cond.methodLink RX11 113 yX11_sum, Cond.instanceMethod yX11_sum, Cond.selects RX11 yX11_sum yX11_sum, Cond.code yX11_sum cX11_sum 3 (some .int), Cond.methodLink RX11 58 yX11_in, Cond.static yX11_in, Cond.code yX11_in cX11_in 6 (some .boolean), Cond.methodLink RX11 117 yX11_again, Cond.instanceMethod yX11_again, Cond.selects RX11 yX11_again yX11_again, Cond.code yX11_again cX11_again 5 (some .int), Cond.methodLink RX11 120 yX11_free, Cond.instanceMethod yX11_free, Cond.selects RX11 yX11_free yX11_free, Cond.code yX11_free cX11_free 4 (some .int), Cond.fieldLink RX11 40 "TellingRowsModel" "other" "[I"]
def wsX11_may : List Cond := .code yX11_may cX11_may 3 (some .int) :: ((wsX11_may_r1 ++ wsX11_may_r2) ++ wsX110)
def wsX11_figure : List Cond := .code yX11_figure cX11_figure 2 (some .int) :: ([.constantLong RX11 139 (9), .fieldLink RX11 141 "TellingRowsModel" "figures" "I", .fieldLink RX11 34 "TellingRowsModel" "figure" "[I", .methodLink RX11 58 yX11_in, .static yX11_in, .initialized RX11, .code yX11_in cX11_in 6 (some .boolean)] ++ wsX110)
def wsX11_noFigures : List Cond := .code yX11_noFigures cX11_noFigures 2 (some .int) :: ([.fieldLink RX11 141 "TellingRowsModel" "figures" "I"] ++ wsX110)
def wsX11_begins : List Cond := .code yX11_begins cX11_begins 2 none :: ([.fieldLink RX11 141 "TellingRowsModel" "figures" "I", .fieldLink RX11 144 "TellingRowsModel" "lineMany" "I", .fieldLink RX11 37 "TellingRowsModel" "line" "[I", .fieldLink RX11 34 "TellingRowsModel" "figure" "[I"] ++ wsX110)
def wsX11_tells : List Cond := .code yX11_tells cX11_tells 6 (some .boolean) :: ([.fieldLink RX11 144 "TellingRowsModel" "lineMany" "I", .fieldLink RX11 37 "TellingRowsModel" "line" "[I", .fieldLink RX11 40 "TellingRowsModel" "other" "[I"] ++ wsX110)
def wsX11_said : List Cond := .code yX11_said cX11_said 5 (some .int) :: ([.constantLong RX11 147 (12), .fieldLink RX11 144 "TellingRowsModel" "lineMany" "I", .fieldLink RX11 37 "TellingRowsModel" "line" "[I", .methodLink RX11 58 yX11_in, .static yX11_in, .initialized RX11, .code yX11_in cX11_in 6 (some .boolean), .methodLink RX11 149 yX11_begins, .instanceMethod yX11_begins, .selects RX11 yX11_begins yX11_begins, .code yX11_begins cX11_begins 2 none, .fieldLink RX11 141 "TellingRowsModel" "figures" "I", .fieldLink RX11 34 "TellingRowsModel" "figure" "[I", .methodLink RX11 152 yX11_tells, .instanceMethod yX11_tells, .selects RX11 yX11_tells yX11_tells, .code yX11_tells cX11_tells 6 (some .boolean), .fieldLink RX11 40 "TellingRowsModel" "other" "[I"] ++ wsX110)
def wsX11_untells : List Cond := .code yX11_untells cX11_untells 5 (some .boolean) :: ([.fieldLink RX11 144 "TellingRowsModel" "lineMany" "I", .fieldLink RX11 37 "TellingRowsModel" "line" "[I", .fieldLink RX11 40 "TellingRowsModel" "other" "[I"] ++ wsX110)
def wsX11_unsaid : List Cond := .code yX11_unsaid cX11_unsaid 2 (some .int) :: ([.fieldLink RX11 144 "TellingRowsModel" "lineMany" "I", .fieldLink RX11 37 "TellingRowsModel" "line" "[I", .methodLink RX11 149 yX11_begins, .instanceMethod yX11_begins, .selects RX11 yX11_begins yX11_begins, .initialized RX11, .code yX11_begins cX11_begins 2 none, .fieldLink RX11 141 "TellingRowsModel" "figures" "I", .fieldLink RX11 34 "TellingRowsModel" "figure" "[I", .methodLink RX11 156 yX11_untells, .instanceMethod yX11_untells, .selects RX11 yX11_untells yX11_untells, .code yX11_untells cX11_untells 5 (some .boolean), .fieldLink RX11 40 "TellingRowsModel" "other" "[I"] ++ wsX110)
def wsX11_backs : List Cond := .code yX11_backs cX11_backs 2 (some .int) :: ([.methodLink RX11 149 yX11_begins, .instanceMethod yX11_begins, .selects RX11 yX11_begins yX11_begins, .initialized RX11, .code yX11_begins cX11_begins 2 none, .fieldLink RX11 141 "TellingRowsModel" "figures" "I", .fieldLink RX11 144 "TellingRowsModel" "lineMany" "I", .fieldLink RX11 37 "TellingRowsModel" "line" "[I", .fieldLink RX11 34 "TellingRowsModel" "figure" "[I", .methodLink RX11 156 yX11_untells, .instanceMethod yX11_untells, .selects RX11 yX11_untells yX11_untells, .code yX11_untells cX11_untells 5 (some .boolean), .fieldLink RX11 40 "TellingRowsModel" "other" "[I"] ++ wsX110)
def wsX11_areLike : List Cond := .code yX11_areLike cX11_areLike 5 (some .boolean) :: ([.fieldLink RX11 43 "TellingRowsModel" "stepMany" "[I", .fieldLink RX11 46 "TellingRowsModel" "step" "[I"] ++ wsX110)
def wsX11_round : List Cond := .code yX11_round cX11_round 4 (some .int) :: ([.fieldLink RX11 43 "TellingRowsModel" "stepMany" "[I", .fieldLink RX11 144 "TellingRowsModel" "lineMany" "I", .fieldLink RX11 46 "TellingRowsModel" "step" "[I", .fieldLink RX11 37 "TellingRowsModel" "line" "[I", .methodLink RX11 58 yX11_in, .static yX11_in, .initialized RX11, .code yX11_in cX11_in 6 (some .boolean), .methodLink RX11 149 yX11_begins, .instanceMethod yX11_begins, .selects RX11 yX11_begins yX11_begins, .code yX11_begins cX11_begins 2 none, .fieldLink RX11 141 "TellingRowsModel" "figures" "I", .fieldLink RX11 34 "TellingRowsModel" "figure" "[I", .methodLink RX11 152 yX11_tells, .instanceMethod yX11_tells, .selects RX11 yX11_tells yX11_tells, .code yX11_tells cX11_tells 6 (some .boolean), .fieldLink RX11 40 "TellingRowsModel" "other" "[I", .methodLink RX11 159 yX11_areLike, .instanceMethod yX11_areLike, .selects RX11 yX11_areLike yX11_areLike, .code yX11_areLike cX11_areLike 5 (some .boolean)] ++ wsX110)
def wsX11_isTeller : List Cond := .code yX11_isTeller cX11_isTeller 6 (some .boolean) :: ([.fieldLink RX11 49 "TellingRowsModel" "digit" "[I"] ++ wsX110)
def wsX11_code : List Cond := .code yX11_code cX11_code 5 (some .long) :: ([.constantLong RX11 163 (10), .fieldLink RX11 49 "TellingRowsModel" "digit" "[I"] ++ wsX110)
def wsX11_tellers : List Cond := .code yX11_tellers cX11_tellers 6 (some .long) :: ([.constantLong RX11 72 (2), .constantLong RX11 163 (10), .constantLong RX11 165 (-1), .fieldLink RX11 49 "TellingRowsModel" "digit" "[I", .constantLong RX11 174 (-4), .methodLink RX11 58 yX11_in, .static yX11_in, .initialized RX11, .code yX11_in cX11_in 6 (some .boolean), .methodLink RX11 167 yX11_isTeller, .instanceMethod yX11_isTeller, .selects RX11 yX11_isTeller yX11_isTeller, .code yX11_isTeller cX11_isTeller 6 (some .boolean), .methodLink RX11 170 yX11_code, .instanceMethod yX11_code, .selects RX11 yX11_code yX11_code, .code yX11_code cX11_code 5 (some .long)] ++ wsX110)
def wsX11_count : List Cond := .code yX11_count cX11_count 2 (some .int) :: ([.fieldLink RX11 62 "TellingRowsModel" "length" "I", .fieldLink RX11 133 "TellingRowsModel" "numbers" "I", .fieldLink RX11 141 "TellingRowsModel" "figures" "I"] ++ wsX110)
def wsJ9_max_7cf53 : List Cond := .code yJ9_max_7cf53 cJ9_max_7cf53 2 (some .int) :: ([])
def wsJ9_min_7cf53 : List Cond := .code yJ9_min_7cf53 cJ9_min_7cf53 2 (some .int) :: ([])
def wsL_law_r1 : List Cond := [Cond.classLink RL 7 RX10, Cond.instantiable RX10 10, Cond.initialized RX10, Cond.classLink RL 10 RX11, Cond.instantiable RX11 21, Cond.initialized RX11, Cond.constantLong RL 13 (4294967295), Cond.methodLink RL 9 yX10_init, Cond.instanceMethod yX10_init, Cond.code yX10_init cX10_init 2 none, Cond.methodLink RX10 1 objectInit, Cond.instanceMethod objectInit, Cond.code objectInit ⟨#[0xb1]⟩ 1 none, Cond.classLink RX10 9 RX5, Cond.fieldLink RX10 11 "TellingRows" "registers" "[LTellingRows$Row;", Cond.classLink RX10 15 RX3, Cond.instantiable RX3 1, Cond.initialized RX3, Cond.fieldLink RX10 18 "TellingRows" "marks" "LTellingRows$Marks;", Cond.classLink RX10 22 RX2, Cond.instantiable RX2 2, Cond.initialized RX2, Cond.fieldLink RX10 27 "TellingRows" "maker" "LTellingRows$Maker;", Cond.classLink RX10 31 RX6]
def wsL_law_r2 : List Cond := [Cond.instantiable RX6 2, Cond.initialized RX6, Cond.fieldLink RX10 36 "TellingRows" "text" "LTellingRows$Sequence;", Cond.classLink RX10 40 RX1, Cond.instantiable RX1 3, Cond.initialized RX1, Cond.fieldLink RX10 43 "TellingRows" "item" "LTellingRows$Item;", Cond.fieldLink RX10 47 "TellingRows" "numbers" "LTellingRows$Sequence;", Cond.fieldLink RX10 50 "TellingRows" "figures" "LTellingRows$Sequence;", Cond.classLink RX10 53 RX8, Cond.instantiable RX8 2, Cond.initialized RX8, Cond.fieldLink RX10 56 "TellingRows" "speaker" "LTellingRows$Speaker;", Cond.classLink RX10 60 RX4, Cond.instantiable RX4 3, Cond.initialized RX4, Cond.fieldLink RX10 63 "TellingRows" "rounds" "LTellingRows$Rounds;", Cond.classLink RX10 67 RX9, Cond.instantiable RX9 4, Cond.initialized RX9, Cond.fieldLink RX10 70 "TellingRows" "tellerSearch" "LTellingRows$TellerSearch;", Cond.instantiable RX5 5, Cond.initialized RX5, Cond.instanceMethod yX3_init]
def wsL_law_r3 : List Cond := [Cond.code yX3_init cX3_init 1 none, Cond.methodLink RX3 3 objectInit, Cond.constant RX3 9 (60001), Cond.arrayClass .int, Cond.fieldLink RX3 10 "TellingRows$Marks" "marks" "[I", Cond.methodLink RX10 24 yX2_init, Cond.instanceMethod yX2_init, Cond.code yX2_init cX2_init 2 none, Cond.methodLink RX2 3 objectInit, Cond.fieldLink RX2 9 "TellingRows$Maker" "alike" "[I", Cond.fieldLink RX2 15 "TellingRows$Maker" "marks" "LTellingRows$Marks;", Cond.methodLink RX10 33 yX6_init, Cond.instanceMethod yX6_init, Cond.code yX6_init cX6_init 2 none, Cond.methodLink RX6 3 objectInit, Cond.methodLink RX6 9 Lib.Math.max.name, Cond.static Lib.Math.max.name, Cond.initialized "java/lang/Math", Cond.code Lib.Math.max.name Lib.Math.max.code 2 (some .int), Cond.fieldLink RX6 15 "TellingRows$Sequence" "items" "[I", Cond.instanceMethod yX1_init, Cond.code yX1_init cX1_init 1 none, Cond.methodLink RX1 3 objectInit, Cond.classLink RX1 9 RX6]
def wsL_law_r4 : List Cond := [Cond.fieldLink RX1 14 "TellingRows$Item" "read" "LTellingRows$Sequence;", Cond.fieldLink RX1 20 "TellingRows$Item" "beginnings" "LTellingRows$Sequence;", Cond.methodLink RX1 11 yX6_init, Cond.instanceMethod yX8_init, Cond.code yX8_init cX8_init 1 none, Cond.methodLink RX8 3 objectInit, Cond.classLink RX8 9 RX6, Cond.fieldLink RX8 14 "TellingRows$Speaker" "one" "LTellingRows$Sequence;", Cond.fieldLink RX8 20 "TellingRows$Speaker" "other" "LTellingRows$Sequence;", Cond.methodLink RX8 11 yX6_init, Cond.methodLink RX10 62 yX4_init, Cond.instanceMethod yX4_init, Cond.code yX4_init cX4_init 2 none, Cond.methodLink RX4 3 objectInit, Cond.classLink RX4 9 RX6, Cond.fieldLink RX4 11 "TellingRows$Rounds" "steps" "[LTellingRows$Sequence;", Cond.methodLink RX4 17 yX6_init, Cond.instanceMethod yX9_init, Cond.code yX9_init cX9_init 1 none, Cond.methodLink RX9 3 objectInit, Cond.fieldLink RX9 9 "TellingRows$TellerSearch" "figures" "[I", Cond.methodLink RX10 74 yX5_init, Cond.instanceMethod yX5_init, Cond.code yX5_init cX5_init 1 none]
def wsL_law_r5 : List Cond := [Cond.methodLink RX5 3 objectInit, Cond.classLink RX5 9 RX6, Cond.fieldLink RX5 14 "TellingRows$Row" "beginnings" "LTellingRows$Sequence;", Cond.fieldLink RX5 20 "TellingRows$Row" "numbers" "[I", Cond.fieldLink RX5 24 "TellingRows$Sort" "REACH" "LTellingRows$Sort;", Cond.fieldLink RX5 30 "TellingRows$Row" "sort" "LTellingRows$Sort;", Cond.methodLink RX5 11 yX6_init, Cond.methodLink RX5 33 yX6_add, Cond.instanceMethod yX6_add, Cond.selects RX6 yX6_add yX6_add, Cond.code yX6_add cX6_add 2 (some .boolean), Cond.fieldLink RX6 21 "TellingRows$Sequence" "size" "I", Cond.methodLink RL 12 yX11_init, Cond.instanceMethod yX11_init, Cond.code yX11_init cX11_init 2 none, Cond.methodLink RX11 1 objectInit, Cond.arrayClass .byte, Cond.fieldLink RX11 7 "TellingRowsModel" "text" "[B", Cond.fieldLink RX11 13 "TellingRowsModel" "law" "[I", Cond.fieldLink RX11 17 "TellingRowsModel" "read" "[I", Cond.fieldLink RX11 20 "TellingRowsModel" "laid" "I", Cond.fieldLink RX11 24 "TellingRowsModel" "row" "[I", Cond.constant RX11 27 (60001), Cond.fieldLink RX11 28 "TellingRowsModel" "seen" "[I"]
def wsL_law_r6 : List Cond := [Cond.fieldLink RX11 31 "TellingRowsModel" "number" "[I", Cond.fieldLink RX11 34 "TellingRowsModel" "figure" "[I", Cond.fieldLink RX11 37 "TellingRowsModel" "line" "[I", Cond.fieldLink RX11 40 "TellingRowsModel" "other" "[I", Cond.fieldLink RX11 43 "TellingRowsModel" "stepMany" "[I", Cond.fieldLink RX11 46 "TellingRowsModel" "step" "[I", Cond.fieldLink RX11 49 "TellingRowsModel" "digit" "[I", Cond.arrayClass .boolean, Cond.fieldLink RX11 52 "TellingRowsModel" "isLaid" "[Z", Cond.methodLink RL 15 yX10_write, Cond.instanceMethod yX10_write, Cond.selects RX10 yX10_write yX10_write, Cond.code yX10_write cX10_write 5 (some .int), Cond.methodLink RX10 75 yX6_size, Cond.instanceMethod yX6_size, Cond.selects RX6 yX6_size yX6_size, Cond.code yX6_size cX6_size 1 (some .int), Cond.methodLink RX10 79 yX6_add, Cond.methodLink RL 19 yX11_write, Cond.instanceMethod yX11_write, Cond.selects RX11 yX11_write yX11_write, Cond.code yX11_write cX11_write 5 (some .int), Cond.constantLong RX11 56 (8), Cond.fieldLink RX11 62 "TellingRowsModel" "length" "I"]
def wsL_law_r7 : List Cond := [Cond.methodLink RX11 58 yX11_in, Cond.static yX11_in, Cond.code yX11_in cX11_in 6 (some .boolean), Cond.methodLink RL 20 yX10_wipe, Cond.instanceMethod yX10_wipe, Cond.selects RX10 yX10_wipe yX10_wipe, Cond.code yX10_wipe cX10_wipe 1 (some .int), Cond.methodLink RX10 83 yX6_clear, Cond.instanceMethod yX6_clear, Cond.selects RX6 yX6_clear yX6_clear, Cond.code yX6_clear cX6_clear 2 (some .int), Cond.methodLink RL 24 yX11_wipe, Cond.instanceMethod yX11_wipe, Cond.selects RX11 yX11_wipe yX11_wipe, Cond.code yX11_wipe cX11_wipe 2 (some .int), Cond.methodLink RL 25 yX10_fault, Cond.instanceMethod yX10_fault, Cond.selects RX10 yX10_fault yX10_fault, Cond.code yX10_fault cX10_fault 3 (some .int), Cond.methodLink RX10 86 yX1_standsAt, Cond.instanceMethod yX1_standsAt, Cond.selects RX1 yX1_standsAt yX1_standsAt, Cond.code yX1_standsAt cX1_standsAt 4 (some .boolean), Cond.methodLink RX1 35 yX1_readsNumbers]
def wsL_law_r8 : List Cond := [Cond.instanceMethod yX1_readsNumbers, Cond.selects RX1 yX1_readsNumbers yX1_readsNumbers, Cond.code yX1_readsNumbers cX1_readsNumbers 7 (some .boolean), Cond.fieldLink RX1 23 "TellingRows$Item" "end" "I", Cond.methodLink RX1 43 yX6_clear, Cond.methodLink RX1 27 yX6_get, Cond.instanceMethod yX6_get, Cond.selects RX6 yX6_get yX6_get, Cond.code yX6_get cX6_get 2 (some .int), Cond.methodLink RX1 46 yX6_size, Cond.methodLink RX1 49 yX6_add, Cond.methodLink RX1 39 yX1_register, Cond.instanceMethod yX1_register, Cond.selects RX1 yX1_register yX1_register, Cond.code yX1_register cX1_register 1 (some .int), Cond.methodLink RX1 53 yX1_sort, Cond.instanceMethod yX1_sort, Cond.selects RX1 yX1_sort yX1_sort, Cond.code yX1_sort cX1_sort 2 (some (.object "TellingRows$Sort")), Cond.methodLink RX1 57 yX7_allows, Cond.instanceMethod yX7_allows, Cond.selects RX7 yX7_allows yX7_allows, Cond.initialized RX7, Cond.code yX7_allows cX7_allows 3 (some .boolean)]
def wsL_law_r9 : List Cond := [Cond.fieldLink RX7 48 "TellingRows$Sort" "fewest" "I", Cond.fieldLink RX7 51 "TellingRows$Sort" "most" "I", Cond.fieldLink RX7 54 "TellingRows$Sort" "lowest" "I", Cond.fieldLink RX7 57 "TellingRows$Sort" "highest" "I", Cond.fieldLink RX7 16 "TellingRows$Sort" "SUMS" "LTellingRows$Sort;", Cond.methodLink RX7 60 yX6_size, Cond.methodLink RX7 66 yX6_get, Cond.methodLink RX10 90 yX1_end, Cond.instanceMethod yX1_end, Cond.selects RX1 yX1_end yX1_end, Cond.code yX1_end cX1_end 1 (some .int), Cond.methodLink RL 28 yX11_fault, Cond.instanceMethod yX11_fault, Cond.selects RX11 yX11_fault yX11_fault, Cond.code yX11_fault cX11_fault 2 (some .int), Cond.fieldLink RX11 65 "TellingRowsModel" "at" "I", Cond.fieldLink RX11 86 "TellingRowsModel" "readItems" "I", Cond.methodLink RX11 89 yX11_isItem, Cond.instanceMethod yX11_isItem, Cond.selects RX11 yX11_isItem yX11_isItem, Cond.code yX11_isItem cX11_isItem 7 (some .boolean), Cond.constantLong RX11 82 (3), Cond.constantLong RX11 84 (6), Cond.methodLink RX11 74 yX11_is]
def wsL_law_r10 : List Cond := [Cond.instanceMethod yX11_is, Cond.selects RX11 yX11_is yX11_is, Cond.code yX11_is cX11_is 2 (some .boolean), Cond.methodLink RX11 78 yX11_oneOrTwo, Cond.instanceMethod yX11_oneOrTwo, Cond.selects RX11 yX11_oneOrTwo yX11_oneOrTwo, Cond.code yX11_oneOrTwo cX11_oneOrTwo 3 (some .int), Cond.constantLong RX11 68 (48), Cond.constantLong RX11 70 (57), Cond.constantLong RX11 72 (2), Cond.methodLink RL 29 yX10_lay, Cond.instanceMethod yX10_lay, Cond.selects RX10 yX10_lay yX10_lay, Cond.code yX10_lay cX10_lay 4 (some .int), Cond.methodLink RX10 93 yX10_fault, Cond.methodLink RX10 96 yX1_register, Cond.methodLink RX10 99 yX10_registerOf, Cond.instanceMethod yX10_registerOf, Cond.selects RX10 yX10_registerOf yX10_registerOf, Cond.code yX10_registerOf cX10_registerOf 2 (some (.object "TellingRows$Row")), Cond.methodLink RX10 103 yX5_become, Cond.instanceMethod yX5_become, Cond.selects RX5 yX5_become yX5_become, Cond.code yX5_become cX5_become 3 none]
def wsL_law_r11 : List Cond := [Cond.fieldLink RX5 47 "TellingRows$Row" "made" "Z", Cond.methodLink RX5 37 yX1_sort, Cond.methodLink RX5 43 yX6_copy, Cond.instanceMethod yX6_copy, Cond.selects RX6 yX6_copy yX6_copy, Cond.code yX6_copy cX6_copy 3 none, Cond.methodLink RX6 25 yX6_get, Cond.methodLink RX6 29 yX6_add, Cond.methodLink RL 32 yX11_lay, Cond.instanceMethod yX11_lay, Cond.selects RX11 yX11_lay yX11_lay, Cond.code yX11_lay cX11_lay 2 (some .int), Cond.methodLink RX11 93 yX11_fault, Cond.methodLink RL 33 yX10_told, Cond.instanceMethod yX10_told, Cond.selects RX10 yX10_told yX10_told, Cond.code yX10_told cX10_told 4 (some .int), Cond.methodLink RX10 120 yX6_get, Cond.methodLink RL 37 yX11_told, Cond.instanceMethod yX11_told, Cond.selects RX11 yX11_told yX11_told, Cond.code yX11_told cX11_told 3 (some .int), Cond.constantLong RX11 99 (7), Cond.methodLink RX11 96 yX11_isRegister]
def wsL_law_r12 : List Cond := [Cond.static yX11_isRegister, Cond.code yX11_isRegister cX11_isRegister 1 (some .boolean), Cond.methodLink RL 38 yX10_at, Cond.instanceMethod yX10_at, Cond.selects RX10 yX10_at yX10_at, Cond.code yX10_at cX10_at 4 (some .int), Cond.methodLink RX10 124 yX10_madeRow, Cond.instanceMethod yX10_madeRow, Cond.selects RX10 yX10_madeRow yX10_madeRow, Cond.code yX10_madeRow cX10_madeRow 3 (some (.object "TellingRows$Row")), Cond.methodLink RX10 206 yX2_make, Cond.instanceMethod yX2_make, Cond.selects RX2 yX2_make yX2_make, Cond.code yX2_make cX2_make 6 none, Cond.methodLink RX2 19 yX3_clear, Cond.instanceMethod yX3_clear, Cond.selects RX3 yX3_clear yX3_clear, Cond.code yX3_clear cX3_clear 1 none, Cond.methodLink RX3 16 yJ7_fill_53178, Cond.static yJ7_fill_53178, Cond.initialized RJ7, Cond.code yJ7_fill_53178 cJ7_fill_53178 4 none, Cond.methodLink RX2 24 yJ7_fill_53178, Cond.methodLink RX2 39 yX2_due]
def wsL_law_r13 : List Cond := [Cond.instanceMethod yX2_due, Cond.selects RX2 yX2_due yX2_due, Cond.code yX2_due cX2_due 4 (some .int), Cond.fieldLink RX2 69 "TellingRows$1" "$SwitchMap$TellingRows$Sort" "[I", Cond.methodLink RX2 74 ⟨"TellingRows$Sort", "ordinal", "()I"⟩, Cond.sameMethod "TellingRows$Sort" "java/lang/Enum" "ordinal" "()I", Cond.selects RX7 ⟨"TellingRows$Sort", "ordinal", "()I"⟩ yJx29ce0_ordinal_8abf5, Cond.instanceMethod yJx29ce0_ordinal_8abf5, Cond.initialized RJx29ce0, Cond.code yJx29ce0_ordinal_8abf5 cJx29ce0_ordinal_8abf5 1 (some .int), Cond.fieldLink RJx29ce0 7 "java/lang/Enum" "ordinal" "I", Cond.methodLink RX2 79 yX2_reach, Cond.instanceMethod yX2_reach, Cond.selects RX2 yX2_reach yX2_reach, Cond.code yX2_reach cX2_reach 6 (some .int), Cond.methodLink RX2 83 yX2_fold, Cond.instanceMethod yX2_fold, Cond.selects RX2 yX2_fold yX2_fold, Cond.code yX2_fold cX2_fold 4 (some .int), Cond.methodLink RX2 86 yX2_back, Cond.instanceMethod yX2_back, Cond.selects RX2 yX2_back yX2_back, Cond.code yX2_back cX2_back 4 (some .int), Cond.methodLink RX2 102 yX3_of]
def wsL_law_r14 : List Cond := [Cond.instanceMethod yX3_of, Cond.selects RX3 yX3_of yX3_of, Cond.code yX3_of cX3_of 2 (some .int), Cond.methodLink RX2 105 yX3_put, Cond.instanceMethod yX3_put, Cond.selects RX3 yX3_put yX3_put, Cond.code yX3_put cX3_put 3 none, Cond.methodLink RX2 90 yX2_again, Cond.instanceMethod yX2_again, Cond.selects RX2 yX2_again yX2_again, Cond.code yX2_again cX2_again 5 (some .int), Cond.methodLink RX2 109 Lib.Math.max.name, Cond.methodLink RX2 93 yX2_sum, Cond.instanceMethod yX2_sum, Cond.selects RX2 yX2_sum yX2_sum, Cond.code yX2_sum cX2_sum 5 (some .int), Cond.constant RX2 118 (60000), Cond.methodLink RX2 114 yX3_raise, Cond.instanceMethod yX3_raise, Cond.selects RX3 yX3_raise yX3_raise, Cond.code yX3_raise cX3_raise 2 none, Cond.methodLink RX2 96 yX2_soFar, Cond.instanceMethod yX2_soFar, Cond.selects RX2 yX2_soFar yX2_soFar]
def wsL_law_r15 : List Cond := [Cond.code yX2_soFar cX2_soFar 2 (some .int), Cond.methodLink RX2 99 yX2_free, Cond.instanceMethod yX2_free, Cond.selects RX2 yX2_free yX2_free, Cond.code yX2_free cX2_free 4 (some .int), Cond.methodLink RX2 47 yX6_size, Cond.methodLink RX2 53 yX6_get, Cond.static yX10_isNumber, Cond.code yX10_isNumber cX10_isNumber 1 (some .boolean), Cond.constant RX10 201 (60000), Cond.methodLink RX10 127 yX5_numberAt, Cond.instanceMethod yX5_numberAt, Cond.selects RX5 yX5_numberAt yX5_numberAt, Cond.code yX5_numberAt cX5_numberAt 2 (some .int), Cond.fieldLink RX5 51 "TellingRows$Row" "length" "I", Cond.methodLink RL 41 yX11_at, Cond.instanceMethod yX11_at, Cond.selects RX11 yX11_at yX11_at, Cond.code yX11_at cX11_at 3 (some .int), Cond.constantLong RX11 123 (1999), Cond.fieldLink RX11 101 "TellingRowsModel" "many" "I", Cond.methodLink RX11 125 yX11_lays, Cond.instanceMethod yX11_lays, Cond.selects RX11 yX11_lays yX11_lays]
def wsL_law_r16 : List Cond := [Cond.code yX11_lays cX11_lays 4 none, Cond.constant RX11 104 (60000), Cond.methodLink RX11 105 yX11_comes, Cond.instanceMethod yX11_comes, Cond.selects RX11 yX11_comes yX11_comes, Cond.code yX11_comes cX11_comes 5 none, Cond.methodLink RX11 109 yX11_next, Cond.instanceMethod yX11_next, Cond.selects RX11 yX11_next yX11_next, Cond.code yX11_next cX11_next 5 (some .int), Cond.methodLink RX11 113 yX11_sum, Cond.instanceMethod yX11_sum, Cond.selects RX11 yX11_sum yX11_sum, Cond.code yX11_sum cX11_sum 3 (some .int), Cond.methodLink RX11 117 yX11_again, Cond.instanceMethod yX11_again, Cond.selects RX11 yX11_again yX11_again, Cond.code yX11_again cX11_again 5 (some .int), Cond.methodLink RX11 120 yX11_free, Cond.instanceMethod yX11_free, Cond.selects RX11 yX11_free yX11_free, Cond.code yX11_free cX11_free 4 (some .int), Cond.methodLink RL 42 yX10_first, Cond.instanceMethod yX10_first]
def wsL_law_r17 : List Cond := [Cond.selects RX10 yX10_first yX10_first, Cond.code yX10_first cX10_first 4 (some .int), Cond.methodLink RX10 130 yX10_isNumber, Cond.methodLink RX10 133 yX5_placeOf, Cond.instanceMethod yX5_placeOf, Cond.selects RX5 yX5_placeOf yX5_placeOf, Cond.code yX5_placeOf cX5_placeOf 3 (some .int), Cond.methodLink RX5 55 yX5_numberAt, Cond.methodLink RL 45 yX11_first, Cond.instanceMethod yX11_first, Cond.selects RX11 yX11_first yX11_first, Cond.code yX11_first cX11_first 4 (some .int), Cond.constantLong RX11 129 (60000), Cond.methodLink RL 46 yX10_often, Cond.instanceMethod yX10_often, Cond.selects RX10 yX10_often yX10_often, Cond.code yX10_often cX10_often 5 (some .int), Cond.methodLink RX10 136 yX5_countOf, Cond.instanceMethod yX5_countOf, Cond.selects RX5 yX5_countOf yX5_countOf, Cond.code yX5_countOf cX5_countOf 5 (some .int), Cond.methodLink RL 50 yX11_often, Cond.instanceMethod yX11_often, Cond.selects RX11 yX11_often yX11_often]
def wsL_law_r18 : List Cond := [Cond.code yX11_often cX11_often 6 (some .int), Cond.constantLong RX11 131 (2000), Cond.methodLink RL 51 yX10_run, Cond.instanceMethod yX10_run, Cond.selects RX10 yX10_run yX10_run, Cond.code yX10_run cX10_run 6 (some .int), Cond.methodLink RX10 140 yX5_runStart, Cond.instanceMethod yX5_runStart, Cond.selects RX5 yX5_runStart yX5_runStart, Cond.code yX5_runStart cX5_runStart 4 (some .int), Cond.methodLink RX5 59 yX5_runEnd, Cond.instanceMethod yX5_runEnd, Cond.selects RX5 yX5_runEnd yX5_runEnd, Cond.code yX5_runEnd cX5_runEnd 4 (some .int), Cond.methodLink RX10 146 yX5_runEnd, Cond.methodLink RL 54 yX11_run, Cond.instanceMethod yX11_run, Cond.selects RX11 yX11_run yX11_run, Cond.code yX11_run cX11_run 7 (some .int), Cond.methodLink RL 55 yX10_most, Cond.instanceMethod yX10_most, Cond.selects RX10 yX10_most yX10_most, Cond.code yX10_most cX10_most 6 (some .int), Cond.methodLink RX10 149 yX5_longestRun]
def wsL_law_r19 : List Cond := [Cond.instanceMethod yX5_longestRun, Cond.selects RX5 yX5_longestRun yX5_longestRun, Cond.code yX5_longestRun cX5_longestRun 7 (some .int), Cond.methodLink RX5 68 Lib.Math.min.name, Cond.static Lib.Math.min.name, Cond.code Lib.Math.min.name Lib.Math.min.code 2 (some .int), Cond.methodLink RX5 63 Lib.Math.max.name, Cond.methodLink RX10 152 yX5_unlike, Cond.instanceMethod yX5_unlike, Cond.selects RX5 yX5_unlike yX5_unlike, Cond.code yX5_unlike cX5_unlike 5 (some .int), Cond.methodLink RX5 71 yX3_clear, Cond.methodLink RX5 76 yX3_of, Cond.methodLink RX5 79 yX3_put, Cond.methodLink RX10 156 yX5_greatest, Cond.instanceMethod yX5_greatest, Cond.selects RX5 yX5_greatest yX5_greatest, Cond.code yX5_greatest cX5_greatest 4 (some .int), Cond.methodLink RL 58 yX11_most, Cond.instanceMethod yX11_most, Cond.selects RX11 yX11_most yX11_most, Cond.code yX11_most cX11_most 11 (some .int), Cond.methodLink RL 59 yX10_around, Cond.instanceMethod yX10_around]
def wsL_law_r20 : List Cond := [Cond.selects RX10 yX10_around yX10_around, Cond.code yX10_around cX10_around 5 (some .int), Cond.methodLink RX10 159 yX5_period, Cond.instanceMethod yX5_period, Cond.selects RX5 yX5_period yX5_period, Cond.code yX5_period cX5_period 2 (some .int), Cond.methodLink RX5 83 yX5_tail, Cond.instanceMethod yX5_tail, Cond.selects RX5 yX5_tail yX5_tail, Cond.code yX5_tail cX5_tail 3 (some .int), Cond.methodLink RX10 162 yX5_tail, Cond.methodLink RL 62 yX11_around, Cond.instanceMethod yX11_around, Cond.selects RX11 yX11_around yX11_around, Cond.code yX11_around cX11_around 5 (some .int), Cond.methodLink RL 63 yX10_number, Cond.instanceMethod yX10_number, Cond.selects RX10 yX10_number yX10_number, Cond.code yX10_number cX10_number 2 (some .int), Cond.methodLink RL 67 yX11_number, Cond.instanceMethod yX11_number, Cond.selects RX11 yX11_number yX11_number, Cond.code yX11_number cX11_number 2 (some .int), Cond.fieldLink RX11 133 "TellingRowsModel" "numbers" "I"]
def wsL_law_r21 : List Cond := [Cond.methodLink RL 68 yX10_noNumbers, Cond.instanceMethod yX10_noNumbers, Cond.selects RX10 yX10_noNumbers yX10_noNumbers, Cond.code yX10_noNumbers cX10_noNumbers 1 (some .int), Cond.methodLink RL 71 yX11_noNumbers, Cond.instanceMethod yX11_noNumbers, Cond.selects RX11 yX11_noNumbers yX11_noNumbers, Cond.code yX11_noNumbers cX11_noNumbers 2 (some .int), Cond.methodLink RL 72 yX10_breaks, Cond.instanceMethod yX10_breaks, Cond.selects RX10 yX10_breaks yX10_breaks, Cond.code yX10_breaks cX10_breaks 4 (some .int), Cond.methodLink RL 75 yX11_breaks, Cond.instanceMethod yX11_breaks, Cond.selects RX11 yX11_breaks yX11_breaks, Cond.code yX11_breaks cX11_breaks 2 (some .int), Cond.methodLink RX11 136 yX11_breaksAt, Cond.instanceMethod yX11_breaksAt, Cond.selects RX11 yX11_breaksAt yX11_breaksAt, Cond.code yX11_breaksAt cX11_breaksAt 3 (some .int), Cond.methodLink RL 76 yX10_may, Cond.instanceMethod yX10_may, Cond.selects RX10 yX10_may yX10_may, Cond.code yX10_may cX10_may 3 (some .int)]
def wsL_law_r22 : List Cond := [Cond.methodLink RX10 165 yX10_breaks, Cond.methodLink RL 79 yX11_may, Cond.instanceMethod yX11_may, Cond.selects RX11 yX11_may yX11_may, Cond.code yX11_may cX11_may 3 (some .int), Cond.methodLink RL 80 yX10_figure, Cond.instanceMethod yX10_figure, Cond.selects RX10 yX10_figure yX10_figure, Cond.code yX10_figure cX10_figure 2 (some .int), Cond.methodLink RL 83 yX11_figure, Cond.instanceMethod yX11_figure, Cond.selects RX11 yX11_figure yX11_figure, Cond.code yX11_figure cX11_figure 2 (some .int), Cond.constantLong RX11 139 (9), Cond.fieldLink RX11 141 "TellingRowsModel" "figures" "I", Cond.methodLink RL 84 yX10_noFigures, Cond.instanceMethod yX10_noFigures, Cond.selects RX10 yX10_noFigures yX10_noFigures, Cond.code yX10_noFigures cX10_noFigures 1 (some .int), Cond.methodLink RL 87 yX11_noFigures, Cond.instanceMethod yX11_noFigures, Cond.selects RX11 yX11_noFigures yX11_noFigures, Cond.code yX11_noFigures cX11_noFigures 2 (some .int), Cond.methodLink RL 88 yX10_said]
def wsL_law_r23 : List Cond := [Cond.instanceMethod yX10_said, Cond.selects RX10 yX10_said yX10_said, Cond.code yX10_said cX10_said 4 (some .int), Cond.methodLink RX10 168 yX8_speak, Cond.instanceMethod yX8_speak, Cond.selects RX8 yX8_speak yX8_speak, Cond.code yX8_speak cX8_speak 8 (some (.object "TellingRows$Sequence")), Cond.methodLink RX8 23 yX6_copy, Cond.methodLink RX8 27 yX8_tally, Cond.static yX8_tally, Cond.code yX8_tally cX8_tally 5 (some .boolean), Cond.methodLink RX8 37 yX6_clear, Cond.methodLink RX8 41 yX6_size, Cond.methodLink RX8 44 yX6_get, Cond.methodLink RX8 48 yX6_add, Cond.methodLink RX8 31 yX8_say, Cond.static yX8_say, Cond.code yX8_say cX8_say 4 (some .boolean), Cond.methodLink RX10 172 yX10_part, Cond.static yX10_part, Cond.code yX10_part cX10_part 2 (some .int), Cond.methodLink RL 92 yX11_said, Cond.instanceMethod yX11_said, Cond.selects RX11 yX11_said yX11_said]
def wsL_law_r24 : List Cond := [Cond.code yX11_said cX11_said 5 (some .int), Cond.constantLong RX11 147 (12), Cond.fieldLink RX11 144 "TellingRowsModel" "lineMany" "I", Cond.methodLink RX11 149 yX11_begins, Cond.instanceMethod yX11_begins, Cond.selects RX11 yX11_begins yX11_begins, Cond.code yX11_begins cX11_begins 2 none, Cond.methodLink RX11 152 yX11_tells, Cond.instanceMethod yX11_tells, Cond.selects RX11 yX11_tells yX11_tells, Cond.code yX11_tells cX11_tells 6 (some .boolean), Cond.methodLink RL 93 yX10_unsaid, Cond.instanceMethod yX10_unsaid, Cond.selects RX10 yX10_unsaid yX10_unsaid, Cond.code yX10_unsaid cX10_unsaid 2 (some .int), Cond.methodLink RX10 176 yX8_takeBack, Cond.instanceMethod yX8_takeBack, Cond.selects RX8 yX8_takeBack yX8_takeBack, Cond.code yX8_takeBack cX8_takeBack 2 (some (.object "TellingRows$Sequence")), Cond.methodLink RX8 34 yX8_unsay, Cond.static yX8_unsay, Cond.code yX8_unsay cX8_unsay 5 (some .boolean), Cond.methodLink RL 96 yX11_unsaid, Cond.instanceMethod yX11_unsaid]
def wsL_law_r25 : List Cond := [Cond.selects RX11 yX11_unsaid yX11_unsaid, Cond.code yX11_unsaid cX11_unsaid 2 (some .int), Cond.methodLink RX11 156 yX11_untells, Cond.instanceMethod yX11_untells, Cond.selects RX11 yX11_untells yX11_untells, Cond.code yX11_untells cX11_untells 5 (some .boolean), Cond.methodLink RL 97 yX10_backs, Cond.instanceMethod yX10_backs, Cond.selects RX10 yX10_backs yX10_backs, Cond.code yX10_backs cX10_backs 1 (some .int), Cond.methodLink RX10 180 yX8_mostBacks, Cond.instanceMethod yX8_mostBacks, Cond.selects RX8 yX8_mostBacks yX8_mostBacks, Cond.code yX8_mostBacks cX8_mostBacks 6 (some .int), Cond.methodLink RL 100 yX11_backs, Cond.instanceMethod yX11_backs, Cond.selects RX11 yX11_backs yX11_backs, Cond.code yX11_backs cX11_backs 2 (some .int), Cond.methodLink RL 101 yX10_round, Cond.instanceMethod yX10_round, Cond.selects RX10 yX10_round yX10_round, Cond.code yX10_round cX10_round 2 (some .int), Cond.methodLink RX10 184 yX4_find, Cond.instanceMethod yX4_find]
def wsL_law_r26 : List Cond := [Cond.selects RX4 yX4_find yX4_find, Cond.code yX4_find cX4_find 4 (some .boolean), Cond.fieldLink RX4 20 "TellingRows$Rounds" "tail" "I", Cond.fieldLink RX4 24 "TellingRows$Rounds" "length" "I", Cond.methodLink RX4 27 yX6_copy, Cond.methodLink RX4 31 yX8_tally, Cond.methodLink RX4 37 yX6_same, Cond.instanceMethod yX6_same, Cond.selects RX6 yX6_same yX6_same, Cond.code yX6_same cX6_same 3 (some .boolean), Cond.methodLink RX10 188 yX4_tail, Cond.instanceMethod yX4_tail, Cond.selects RX4 yX4_tail yX4_tail, Cond.code yX4_tail cX4_tail 1 (some .int), Cond.methodLink RX10 190 yX4_length, Cond.instanceMethod yX4_length, Cond.selects RX4 yX4_length yX4_length, Cond.code yX4_length cX4_length 1 (some .int), Cond.methodLink RL 104 yX11_round, Cond.instanceMethod yX11_round, Cond.selects RX11 yX11_round yX11_round, Cond.code yX11_round cX11_round 4 (some .int), Cond.methodLink RX11 159 yX11_areLike, Cond.instanceMethod yX11_areLike]
def wsL_law_r27 : List Cond := [Cond.selects RX11 yX11_areLike yX11_areLike, Cond.code yX11_areLike cX11_areLike 5 (some .boolean), Cond.methodLink RL 105 yX10_tellers, Cond.instanceMethod yX10_tellers, Cond.selects RX10 yX10_tellers yX10_tellers, Cond.code yX10_tellers cX10_tellers 4 (some .long), Cond.constantLong RX10 192 (-1), Cond.methodLink RX10 194 yX9_search, Cond.instanceMethod yX9_search, Cond.selects RX9 yX9_search yX9_search, Cond.code yX9_search cX9_search 3 (some .int), Cond.fieldLink RX9 19 "TellingRows$TellerSearch" "wanted" "I", Cond.fieldLink RX9 23 "TellingRows$TellerSearch" "found" "I", Cond.constantLong RX9 26 (-4), Cond.fieldLink RX9 15 "TellingRows$TellerSearch" "answer" "J", Cond.methodLink RX9 28 yX9_fill, Cond.static yX9_fill, Cond.code yX9_fill cX9_fill 6 none, Cond.methodLink RX9 32 yX9_tells, Cond.instanceMethod yX9_tells, Cond.selects RX9 yX9_tells yX9_tells, Cond.code yX9_tells cX9_tells 5 (some .boolean), Cond.methodLink RX9 36 yX9_keep, Cond.instanceMethod yX9_keep]
def wsL_law_r28 : List Cond := [Cond.selects RX9 yX9_keep yX9_keep, Cond.code yX9_keep cX9_keep 3 none, Cond.constantLong RX9 40 (10), Cond.methodLink RX10 197 yX9_answer, Cond.instanceMethod yX9_answer, Cond.selects RX9 yX9_answer yX9_answer, Cond.code yX9_answer cX9_answer 1 (some .long), Cond.methodLink RL 109 yX11_tellers, Cond.instanceMethod yX11_tellers, Cond.selects RX11 yX11_tellers yX11_tellers, Cond.code yX11_tellers cX11_tellers 6 (some .long), Cond.constantLong RX11 163 (10), Cond.constantLong RX11 165 (-1), Cond.constantLong RX11 174 (-4), Cond.methodLink RX11 167 yX11_isTeller, Cond.instanceMethod yX11_isTeller, Cond.selects RX11 yX11_isTeller yX11_isTeller, Cond.code yX11_isTeller cX11_isTeller 6 (some .boolean), Cond.methodLink RX11 170 yX11_code, Cond.instanceMethod yX11_code, Cond.selects RX11 yX11_code yX11_code, Cond.code yX11_code cX11_code 5 (some .long), Cond.methodLink RL 110 yX10_count, Cond.instanceMethod yX10_count]
def wsL_law_r29 : List Cond := [Cond.selects RX10 yX10_count yX10_count, Cond.code yX10_count cX10_count 2 (some .int), Cond.methodLink RL 113 yX11_count, Cond.instanceMethod yX11_count, Cond.selects RX11 yX11_count yX11_count, Cond.code yX11_count cX11_count 2 (some .int)]
def wsL_law : List Cond := (wsL_law_r1 ++ (wsL_law_r2 ++ (wsL_law_r3 ++ (wsL_law_r4 ++ (wsL_law_r5 ++ (wsL_law_r6 ++ (wsL_law_r7 ++ (wsL_law_r8 ++ (wsL_law_r9 ++ (wsL_law_r10 ++ (wsL_law_r11 ++ (wsL_law_r12 ++ (wsL_law_r13 ++ (wsL_law_r14 ++ (wsL_law_r15 ++ (wsL_law_r16 ++ (wsL_law_r17 ++ (wsL_law_r18 ++ (wsL_law_r19 ++ (wsL_law_r20 ++ (wsL_law_r21 ++ (wsL_law_r22 ++ (wsL_law_r23 ++ (wsL_law_r24 ++ (wsL_law_r25 ++ (wsL_law_r26 ++ (wsL_law_r27 ++ (wsL_law_r28 ++ wsL_law_r29)))))))))))))))))))))))))))) ++ wsX100 ++ wsX110 ++ wsX30 ++ wsX20 ++ wsX60 ++ wsX10 ++ wsX80 ++ wsX40 ++ wsX90 ++ wsX50 ++ ([] : List Cond)
abbrev vwCl : List vw_C := [(RX1, TX1, 3), (RX2, TX2, 2), (RX3, TX3, 1), (RX4, TX4, 3), (RX5, TX5, 5), (RX6, TX6, 2), (RX8, TX8, 2), (RX9, TX9, 4), (RX10, TX10, 10), (RX11, TX11, 21)]
/-! ===== END printed: names ===== -/
end
section
set_option maxRecDepth 20000 in
theorem ggX1_init_X6_init : GoodIn wsX1_init wsX6_init := goodIn_r _ [11, 12, 2, 3, 13, 14, 15, 16, 17, 18, 19, 20] (by decide +kernel) (by decide +kernel)
set_option maxRecDepth 20000 in
theorem gX1_init_X6_init : GoodIn wsX1_init (wsX6_init) := ggX1_init_X6_init
theorem dX1_init_0 : decode cX1_init 0 = .ok (.aload_n 0, 1) := by decide +kernel
theorem dX1_init_1 : decode cX1_init 1 = .ok (.invokespecial 3, 3) := by decide +kernel
theorem dX1_init_4 : decode cX1_init 4 = .ok (.aload_n 0, 1) := by decide +kernel
theorem dX1_init_5 : decode cX1_init 5 = .ok (.new 9, 3) := by decide +kernel
theorem dX1_init_8 : decode cX1_init 8 = .ok (.dup, 1) := by decide +kernel
theorem dX1_init_9 : decode cX1_init 9 = .ok (.bipush 8, 2) := by decide +kernel
theorem dX1_init_11 : decode cX1_init 11 = .ok (.invokespecial 11, 3) := by decide +kernel
theorem dX1_init_14 : decode cX1_init 14 = .ok (.putfield 14, 3) := by decide +kernel
theorem dX1_init_17 : decode cX1_init 17 = .ok (.aload_n 0, 1) := by decide +kernel
theorem dX1_init_18 : decode cX1_init 18 = .ok (.new 9, 3) := by decide +kernel
theorem dX1_init_21 : decode cX1_init 21 = .ok (.dup, 1) := by decide +kernel
theorem dX1_init_22 : decode cX1_init 22 = .ok (.bipush 6, 2) := by decide +kernel
theorem dX1_init_24 : decode cX1_init 24 = .ok (.invokespecial 11, 3) := by decide +kernel
theorem dX1_init_27 : decode cX1_init 27 = .ok (.putfield 20, 3) := by decide +kernel
theorem dX1_init_30 : decode cX1_init 30 = .ok (.return_, 1) := by decide +kernel
theorem dX1_end_0 : decode cX1_end 0 = .ok (.aload_n 0, 1) := by decide +kernel
theorem dX1_end_1 : decode cX1_end 1 = .ok (.getfield 23, 3) := by decide +kernel
theorem dX1_end_4 : decode cX1_end 4 = .ok (.ireturn, 1) := by decide +kernel
set_option maxRecDepth 20000 in
theorem ggX1_register_X6_get : GoodIn wsX1_register wsX6_get := goodIn_r _ [6, 7, 8, 12, 13] (by decide +kernel) (by decide +kernel)
set_option maxRecDepth 20000 in
theorem gX1_register_X6_get : GoodIn wsX1_register (wsV RX1 27 RX6 yX6_get wsX6_get) := goodIn_app (goodIn_of _ (by decide +kernel)) ggX1_register_X6_get
theorem dX1_register_0 : decode cX1_register 0 = .ok (.aload_n 0, 1) := by decide +kernel
theorem dX1_register_1 : decode cX1_register 1 = .ok (.getfield 14, 3) := by decide +kernel
theorem dX1_register_4 : decode cX1_register 4 = .ok (.iconst 0, 1) := by decide +kernel
theorem dX1_register_5 : decode cX1_register 5 = .ok (.invokevirtual 27, 3) := by decide +kernel
theorem dX1_register_8 : decode cX1_register 8 = .ok (.ireturn, 1) := by decide +kernel
set_option maxRecDepth 20000 in
theorem ggX1_sort_X6_get : GoodIn wsX1_sort wsX6_get := goodIn_r _ [6, 7, 8, 12, 13] (by decide +kernel) (by decide +kernel)
set_option maxRecDepth 20000 in
theorem gX1_sort_X6_get : GoodIn wsX1_sort (wsV RX1 27 RX6 yX6_get wsX6_get) := goodIn_app (goodIn_of _ (by decide +kernel)) ggX1_sort_X6_get
theorem dX1_sort_0 : decode cX1_sort 0 = .ok (.aload_n 0, 1) := by decide +kernel
theorem dX1_sort_1 : decode cX1_sort 1 = .ok (.getfield 14, 3) := by decide +kernel
theorem dX1_sort_4 : decode cX1_sort 4 = .ok (.iconst 1, 1) := by decide +kernel
theorem dX1_sort_5 : decode cX1_sort 5 = .ok (.invokevirtual 27, 3) := by decide +kernel
theorem dX1_sort_8 : decode cX1_sort 8 = .ok (.istore_n 1, 1) := by decide +kernel
theorem dX1_sort_9 : decode cX1_sort 9 = .ok (.iload_n 1, 1) := by decide +kernel
theorem dX1_sort_10 : decode cX1_sort 10 = .ok (.ifCond .lt 19, 3) := by decide +kernel
theorem dX1_sort_13 : decode cX1_sort 13 = .ok (.iload_n 1, 1) := by decide +kernel
theorem dX1_sort_14 : decode cX1_sort 14 = .ok (.getstatic 31, 3) := by decide +kernel
theorem dX1_sort_17 : decode cX1_sort 17 = .ok (.arraylength, 1) := by decide +kernel
theorem dX1_sort_18 : decode cX1_sort 18 = .ok (.if_icmp .ge 11, 3) := by decide +kernel
theorem dX1_sort_21 : decode cX1_sort 21 = .ok (.getstatic 31, 3) := by decide +kernel
theorem dX1_sort_24 : decode cX1_sort 24 = .ok (.iload_n 1, 1) := by decide +kernel
theorem dX1_sort_25 : decode cX1_sort 25 = .ok (.aaload, 1) := by decide +kernel
theorem dX1_sort_26 : decode cX1_sort 26 = .ok (.goto 4, 3) := by decide +kernel
theorem dX1_sort_29 : decode cX1_sort 29 = .ok (.aconst_null, 1) := by decide +kernel
theorem dX1_sort_30 : decode cX1_sort 30 = .ok (.areturn, 1) := by decide +kernel
set_option maxRecDepth 20000 in
theorem ggX1_standsAt_X1_readsNumbers : GoodIn wsX1_standsAt wsX1_readsNumbers := goodIn_r _ [7, 2, 8, 9, 10, 11, 12, 13, 14, 15, 16, 17, 18, 19, 20, 21, 22, 23, 24, 25, 26, 27, 48, 49, 50, 51, 52] (by decide +kernel) (by decide +kernel)
set_option maxRecDepth 20000 in
theorem gX1_standsAt_X1_readsNumbers : GoodIn wsX1_standsAt (wsV RX1 35 RX1 yX1_readsNumbers wsX1_readsNumbers) := goodIn_app (goodIn_of _ (by decide +kernel)) ggX1_standsAt_X1_readsNumbers
set_option maxRecDepth 20000 in
theorem ggX1_standsAt_X1_register : GoodIn wsX1_standsAt wsX1_register := goodIn_r _ [31, 2, 15, 16, 17, 12, 18, 14, 19, 48, 49, 50, 51, 52] (by decide +kernel) (by decide +kernel)
set_option maxRecDepth 20000 in
theorem gX1_standsAt_X1_register : GoodIn wsX1_standsAt (wsV RX1 39 RX1 yX1_register wsX1_register) := goodIn_app (goodIn_of _ (by decide +kernel)) ggX1_standsAt_X1_register
set_option maxRecDepth 20000 in
theorem ggX1_standsAt_X6_clear : GoodIn wsX1_standsAt wsX6_clear := goodIn_r _ [13, 14, 51, 52] (by decide +kernel) (by decide +kernel)
set_option maxRecDepth 20000 in
theorem gX1_standsAt_X6_clear : GoodIn wsX1_standsAt (wsV RX1 43 RX6 yX6_clear wsX6_clear) := goodIn_app (goodIn_of _ (by decide +kernel)) ggX1_standsAt_X6_clear
set_option maxRecDepth 20000 in
theorem ggX1_standsAt_X6_size : GoodIn wsX1_standsAt wsX6_size := goodIn_r _ [23, 14, 51, 52] (by decide +kernel) (by decide +kernel)
set_option maxRecDepth 20000 in
theorem gX1_standsAt_X6_size : GoodIn wsX1_standsAt (wsV RX1 46 RX6 yX6_size wsX6_size) := goodIn_app (goodIn_of _ (by decide +kernel)) ggX1_standsAt_X6_size
set_option maxRecDepth 20000 in
theorem ggX1_standsAt_X6_get : GoodIn wsX1_standsAt wsX6_get := goodIn_r _ [18, 14, 19, 51, 52] (by decide +kernel) (by decide +kernel)
set_option maxRecDepth 20000 in
theorem gX1_standsAt_X6_get : GoodIn wsX1_standsAt (wsV RX1 27 RX6 yX6_get wsX6_get) := goodIn_app (goodIn_of _ (by decide +kernel)) ggX1_standsAt_X6_get
set_option maxRecDepth 20000 in
theorem ggX1_standsAt_X6_add : GoodIn wsX1_standsAt wsX6_add := goodIn_r _ [27, 14, 19, 51, 52] (by decide +kernel) (by decide +kernel)
set_option maxRecDepth 20000 in
theorem gX1_standsAt_X6_add : GoodIn wsX1_standsAt (wsV RX1 49 RX6 yX6_add wsX6_add) := goodIn_app (goodIn_of _ (by decide +kernel)) ggX1_standsAt_X6_add
set_option maxRecDepth 20000 in
theorem ggX1_standsAt_X1_sort : GoodIn wsX1_standsAt wsX1_sort := goodIn_r _ [35, 2, 15, 16, 17, 12, 18, 14, 19, 48, 49, 50, 51, 52] (by decide +kernel) (by decide +kernel)
set_option maxRecDepth 20000 in
theorem gX1_standsAt_X1_sort : GoodIn wsX1_standsAt (wsV RX1 53 RX1 yX1_sort wsX1_sort) := goodIn_app (goodIn_of _ (by decide +kernel)) ggX1_standsAt_X1_sort
set_option maxRecDepth 20000 in
theorem ggX1_standsAt_X7_allows : GoodIn wsX1_standsAt wsX7_allows := goodIn_r _ [40, 41, 42, 43, 44, 45, 46, 21, 22, 12, 23, 14, 47, 16, 17, 18, 19, 51, 52] (by decide +kernel) (by decide +kernel)
set_option maxRecDepth 20000 in
theorem gX1_standsAt_X7_allows : GoodIn wsX1_standsAt (wsV RX1 57 RX7 yX7_allows wsX7_allows) := goodIn_app (goodIn_of _ (by decide +kernel)) ggX1_standsAt_X7_allows
theorem dX1_standsAt_0 : decode cX1_standsAt 0 = .ok (.aload_n 0, 1) := by decide +kernel
theorem dX1_standsAt_1 : decode cX1_standsAt 1 = .ok (.aload_n 1, 1) := by decide +kernel
theorem dX1_standsAt_2 : decode cX1_standsAt 2 = .ok (.iload_n 2, 1) := by decide +kernel
theorem dX1_standsAt_3 : decode cX1_standsAt 3 = .ok (.invokevirtual 35, 3) := by decide +kernel
theorem dX1_standsAt_6 : decode cX1_standsAt 6 = .ok (.ifCond .eq 18, 3) := by decide +kernel
theorem dX1_standsAt_9 : decode cX1_standsAt 9 = .ok (.aload_n 0, 1) := by decide +kernel
theorem dX1_standsAt_10 : decode cX1_standsAt 10 = .ok (.invokevirtual 39, 3) := by decide +kernel
theorem dX1_standsAt_13 : decode cX1_standsAt 13 = .ok (.ifCond .lt 11, 3) := by decide +kernel
theorem dX1_standsAt_16 : decode cX1_standsAt 16 = .ok (.aload_n 0, 1) := by decide +kernel
theorem dX1_standsAt_17 : decode cX1_standsAt 17 = .ok (.invokevirtual 39, 3) := by decide +kernel
theorem dX1_standsAt_20 : decode cX1_standsAt 20 = .ok (.iconst 4, 1) := by decide +kernel
theorem dX1_standsAt_21 : decode cX1_standsAt 21 = .ok (.if_icmp .lt 5, 3) := by decide +kernel
theorem dX1_standsAt_24 : decode cX1_standsAt 24 = .ok (.iconst 0, 1) := by decide +kernel
theorem dX1_standsAt_25 : decode cX1_standsAt 25 = .ok (.ireturn, 1) := by decide +kernel
theorem dX1_standsAt_26 : decode cX1_standsAt 26 = .ok (.aload_n 0, 1) := by decide +kernel
theorem dX1_standsAt_27 : decode cX1_standsAt 27 = .ok (.getfield 20, 3) := by decide +kernel
theorem dX1_standsAt_30 : decode cX1_standsAt 30 = .ok (.invokevirtual 43, 3) := by decide +kernel
theorem dX1_standsAt_33 : decode cX1_standsAt 33 = .ok (.pop, 1) := by decide +kernel
theorem dX1_standsAt_34 : decode cX1_standsAt 34 = .ok (.iconst 2, 1) := by decide +kernel
theorem dX1_standsAt_35 : decode cX1_standsAt 35 = .ok (.istore_n 3, 1) := by decide +kernel
theorem dX1_standsAt_36 : decode cX1_standsAt 36 = .ok (.iload_n 3, 1) := by decide +kernel
theorem dX1_standsAt_37 : decode cX1_standsAt 37 = .ok (.aload_n 0, 1) := by decide +kernel
theorem dX1_standsAt_38 : decode cX1_standsAt 38 = .ok (.getfield 14, 3) := by decide +kernel
theorem dX1_standsAt_41 : decode cX1_standsAt 41 = .ok (.invokevirtual 46, 3) := by decide +kernel
theorem dX1_standsAt_44 : decode cX1_standsAt 44 = .ok (.if_icmp .ge 25, 3) := by decide +kernel
theorem dX1_standsAt_47 : decode cX1_standsAt 47 = .ok (.aload_n 0, 1) := by decide +kernel
theorem dX1_standsAt_48 : decode cX1_standsAt 48 = .ok (.getfield 20, 3) := by decide +kernel
theorem dX1_standsAt_51 : decode cX1_standsAt 51 = .ok (.aload_n 0, 1) := by decide +kernel
theorem dX1_standsAt_52 : decode cX1_standsAt 52 = .ok (.getfield 14, 3) := by decide +kernel
theorem dX1_standsAt_55 : decode cX1_standsAt 55 = .ok (.iload_n 3, 1) := by decide +kernel
theorem dX1_standsAt_56 : decode cX1_standsAt 56 = .ok (.invokevirtual 27, 3) := by decide +kernel
theorem dX1_standsAt_59 : decode cX1_standsAt 59 = .ok (.invokevirtual 49, 3) := by decide +kernel
theorem dX1_standsAt_62 : decode cX1_standsAt 62 = .ok (.pop, 1) := by decide +kernel
theorem dX1_standsAt_63 : decode cX1_standsAt 63 = .ok (.iinc 3 1, 3) := by decide +kernel
theorem dX1_standsAt_66 : decode cX1_standsAt 66 = .ok (.goto (-30), 3) := by decide +kernel
theorem dX1_standsAt_69 : decode cX1_standsAt 69 = .ok (.aload_n 0, 1) := by decide +kernel
theorem dX1_standsAt_70 : decode cX1_standsAt 70 = .ok (.invokevirtual 53, 3) := by decide +kernel
theorem dX1_standsAt_73 : decode cX1_standsAt 73 = .ok (.astore_n 3, 1) := by decide +kernel
theorem dX1_standsAt_74 : decode cX1_standsAt 74 = .ok (.aload_n 3, 1) := by decide +kernel
theorem dX1_standsAt_75 : decode cX1_standsAt 75 = .ok (.ifnull 18, 3) := by decide +kernel
theorem dX1_standsAt_78 : decode cX1_standsAt 78 = .ok (.aload_n 3, 1) := by decide +kernel
theorem dX1_standsAt_79 : decode cX1_standsAt 79 = .ok (.aload_n 0, 1) := by decide +kernel
theorem dX1_standsAt_80 : decode cX1_standsAt 80 = .ok (.getfield 20, 3) := by decide +kernel
theorem dX1_standsAt_83 : decode cX1_standsAt 83 = .ok (.invokevirtual 57, 3) := by decide +kernel
theorem dX1_standsAt_86 : decode cX1_standsAt 86 = .ok (.ifCond .eq 7, 3) := by decide +kernel
theorem dX1_standsAt_89 : decode cX1_standsAt 89 = .ok (.iconst 1, 1) := by decide +kernel
theorem dX1_standsAt_90 : decode cX1_standsAt 90 = .ok (.goto 4, 3) := by decide +kernel
theorem dX1_standsAt_93 : decode cX1_standsAt 93 = .ok (.iconst 0, 1) := by decide +kernel
theorem dX1_standsAt_94 : decode cX1_standsAt 94 = .ok (.ireturn, 1) := by decide +kernel
set_option maxRecDepth 20000 in
theorem ggX1_readsNumbers_X6_clear : GoodIn wsX1_readsNumbers wsX6_clear := goodIn_r _ [7, 8, 25, 26] (by decide +kernel) (by decide +kernel)
set_option maxRecDepth 20000 in
theorem gX1_readsNumbers_X6_clear : GoodIn wsX1_readsNumbers (wsV RX1 43 RX6 yX6_clear wsX6_clear) := goodIn_app (goodIn_of _ (by decide +kernel)) ggX1_readsNumbers_X6_clear
set_option maxRecDepth 20000 in
theorem ggX1_readsNumbers_X6_get : GoodIn wsX1_readsNumbers wsX6_get := goodIn_r _ [12, 8, 13, 25, 26] (by decide +kernel) (by decide +kernel)
set_option maxRecDepth 20000 in
theorem gX1_readsNumbers_X6_get : GoodIn wsX1_readsNumbers (wsV RX1 27 RX6 yX6_get wsX6_get) := goodIn_app (goodIn_of _ (by decide +kernel)) ggX1_readsNumbers_X6_get
set_option maxRecDepth 20000 in
theorem ggX1_readsNumbers_X6_size : GoodIn wsX1_readsNumbers wsX6_size := goodIn_r _ [17, 8, 25, 26] (by decide +kernel) (by decide +kernel)
set_option maxRecDepth 20000 in
theorem gX1_readsNumbers_X6_size : GoodIn wsX1_readsNumbers (wsV RX1 46 RX6 yX6_size wsX6_size) := goodIn_app (goodIn_of _ (by decide +kernel)) ggX1_readsNumbers_X6_size
set_option maxRecDepth 20000 in
theorem ggX1_readsNumbers_X6_add : GoodIn wsX1_readsNumbers wsX6_add := goodIn_r _ [21, 8, 13, 25, 26] (by decide +kernel) (by decide +kernel)
set_option maxRecDepth 20000 in
theorem gX1_readsNumbers_X6_add : GoodIn wsX1_readsNumbers (wsV RX1 49 RX6 yX6_add wsX6_add) := goodIn_app (goodIn_of _ (by decide +kernel)) ggX1_readsNumbers_X6_add
theorem dX1_readsNumbers_0 : decode cX1_readsNumbers 0 = .ok (.aload_n 0, 1) := by decide +kernel
theorem dX1_readsNumbers_1 : decode cX1_readsNumbers 1 = .ok (.getfield 14, 3) := by decide +kernel
theorem dX1_readsNumbers_4 : decode cX1_readsNumbers 4 = .ok (.invokevirtual 43, 3) := by decide +kernel
theorem dX1_readsNumbers_7 : decode cX1_readsNumbers 7 = .ok (.pop, 1) := by decide +kernel
theorem dX1_readsNumbers_8 : decode cX1_readsNumbers 8 = .ok (.aload_n 1, 1) := by decide +kernel
theorem dX1_readsNumbers_9 : decode cX1_readsNumbers 9 = .ok (.iload_n 2, 1) := by decide +kernel
theorem dX1_readsNumbers_10 : decode cX1_readsNumbers 10 = .ok (.invokevirtual 27, 3) := by decide +kernel
theorem dX1_readsNumbers_13 : decode cX1_readsNumbers 13 = .ok (.bipush 114, 2) := by decide +kernel
theorem dX1_readsNumbers_15 : decode cX1_readsNumbers 15 = .ok (.if_icmp .eq 5, 3) := by decide +kernel
theorem dX1_readsNumbers_18 : decode cX1_readsNumbers 18 = .ok (.iconst 0, 1) := by decide +kernel
theorem dX1_readsNumbers_19 : decode cX1_readsNumbers 19 = .ok (.ireturn, 1) := by decide +kernel
theorem dX1_readsNumbers_20 : decode cX1_readsNumbers 20 = .ok (.iconst 0, 1) := by decide +kernel
theorem dX1_readsNumbers_21 : decode cX1_readsNumbers 21 = .ok (.istore_n 3, 1) := by decide +kernel
theorem dX1_readsNumbers_22 : decode cX1_readsNumbers 22 = .ok (.iconst 0, 1) := by decide +kernel
theorem dX1_readsNumbers_23 : decode cX1_readsNumbers 23 = .ok (.istore 4, 2) := by decide +kernel
theorem dX1_readsNumbers_25 : decode cX1_readsNumbers 25 = .ok (.iload_n 2, 1) := by decide +kernel
theorem dX1_readsNumbers_26 : decode cX1_readsNumbers 26 = .ok (.iconst 1, 1) := by decide +kernel
theorem dX1_readsNumbers_27 : decode cX1_readsNumbers 27 = .ok (.iadd, 1) := by decide +kernel
theorem dX1_readsNumbers_28 : decode cX1_readsNumbers 28 = .ok (.istore 5, 2) := by decide +kernel
theorem dX1_readsNumbers_30 : decode cX1_readsNumbers 30 = .ok (.iload 5, 2) := by decide +kernel
theorem dX1_readsNumbers_32 : decode cX1_readsNumbers 32 = .ok (.aload_n 1, 1) := by decide +kernel
theorem dX1_readsNumbers_33 : decode cX1_readsNumbers 33 = .ok (.invokevirtual 46, 3) := by decide +kernel
theorem dX1_readsNumbers_36 : decode cX1_readsNumbers 36 = .ok (.if_icmp .ge 111, 3) := by decide +kernel
theorem dX1_readsNumbers_39 : decode cX1_readsNumbers 39 = .ok (.aload_n 1, 1) := by decide +kernel
theorem dX1_readsNumbers_40 : decode cX1_readsNumbers 40 = .ok (.iload 5, 2) := by decide +kernel
theorem dX1_readsNumbers_42 : decode cX1_readsNumbers 42 = .ok (.invokevirtual 27, 3) := by decide +kernel
theorem dX1_readsNumbers_45 : decode cX1_readsNumbers 45 = .ok (.istore 6, 2) := by decide +kernel
theorem dX1_readsNumbers_47 : decode cX1_readsNumbers 47 = .ok (.iload 6, 2) := by decide +kernel
theorem dX1_readsNumbers_49 : decode cX1_readsNumbers 49 = .ok (.bipush 48, 2) := by decide +kernel
theorem dX1_readsNumbers_51 : decode cX1_readsNumbers 51 = .ok (.if_icmp .lt 33, 3) := by decide +kernel
theorem dX1_readsNumbers_54 : decode cX1_readsNumbers 54 = .ok (.iload 6, 2) := by decide +kernel
theorem dX1_readsNumbers_56 : decode cX1_readsNumbers 56 = .ok (.bipush 57, 2) := by decide +kernel
theorem dX1_readsNumbers_58 : decode cX1_readsNumbers 58 = .ok (.if_icmp .gt 26, 3) := by decide +kernel
theorem dX1_readsNumbers_61 : decode cX1_readsNumbers 61 = .ok (.iload 4, 2) := by decide +kernel
theorem dX1_readsNumbers_63 : decode cX1_readsNumbers 63 = .ok (.iconst 2, 1) := by decide +kernel
theorem dX1_readsNumbers_64 : decode cX1_readsNumbers 64 = .ok (.if_icmp .ge 20, 3) := by decide +kernel
theorem dX1_readsNumbers_67 : decode cX1_readsNumbers 67 = .ok (.bipush 10, 2) := by decide +kernel
theorem dX1_readsNumbers_69 : decode cX1_readsNumbers 69 = .ok (.iload_n 3, 1) := by decide +kernel
theorem dX1_readsNumbers_70 : decode cX1_readsNumbers 70 = .ok (.imul, 1) := by decide +kernel
theorem dX1_readsNumbers_71 : decode cX1_readsNumbers 71 = .ok (.iload 6, 2) := by decide +kernel
theorem dX1_readsNumbers_73 : decode cX1_readsNumbers 73 = .ok (.iadd, 1) := by decide +kernel
theorem dX1_readsNumbers_74 : decode cX1_readsNumbers 74 = .ok (.bipush 48, 2) := by decide +kernel
theorem dX1_readsNumbers_76 : decode cX1_readsNumbers 76 = .ok (.isub, 1) := by decide +kernel
theorem dX1_readsNumbers_77 : decode cX1_readsNumbers 77 = .ok (.istore_n 3, 1) := by decide +kernel
theorem dX1_readsNumbers_78 : decode cX1_readsNumbers 78 = .ok (.iinc 4 1, 3) := by decide +kernel
theorem dX1_readsNumbers_81 : decode cX1_readsNumbers 81 = .ok (.goto 60, 3) := by decide +kernel
theorem dX1_readsNumbers_84 : decode cX1_readsNumbers 84 = .ok (.iload 6, 2) := by decide +kernel
theorem dX1_readsNumbers_86 : decode cX1_readsNumbers 86 = .ok (.bipush 44, 2) := by decide +kernel
theorem dX1_readsNumbers_88 : decode cX1_readsNumbers 88 = .ok (.if_icmp .eq 10, 3) := by decide +kernel
theorem dX1_readsNumbers_91 : decode cX1_readsNumbers 91 = .ok (.iload 6, 2) := by decide +kernel
theorem dX1_readsNumbers_93 : decode cX1_readsNumbers 93 = .ok (.bipush 59, 2) := by decide +kernel
theorem dX1_readsNumbers_95 : decode cX1_readsNumbers 95 = .ok (.if_icmp .ne 44, 3) := by decide +kernel
theorem dX1_readsNumbers_98 : decode cX1_readsNumbers 98 = .ok (.iload 4, 2) := by decide +kernel
theorem dX1_readsNumbers_100 : decode cX1_readsNumbers 100 = .ok (.ifCond .le 39, 3) := by decide +kernel
theorem dX1_readsNumbers_103 : decode cX1_readsNumbers 103 = .ok (.aload_n 0, 1) := by decide +kernel
theorem dX1_readsNumbers_104 : decode cX1_readsNumbers 104 = .ok (.getfield 14, 3) := by decide +kernel
theorem dX1_readsNumbers_107 : decode cX1_readsNumbers 107 = .ok (.iload_n 3, 1) := by decide +kernel
theorem dX1_readsNumbers_108 : decode cX1_readsNumbers 108 = .ok (.invokevirtual 49, 3) := by decide +kernel
theorem dX1_readsNumbers_111 : decode cX1_readsNumbers 111 = .ok (.ifCond .eq 28, 3) := by decide +kernel
theorem dX1_readsNumbers_114 : decode cX1_readsNumbers 114 = .ok (.iload 6, 2) := by decide +kernel
theorem dX1_readsNumbers_116 : decode cX1_readsNumbers 116 = .ok (.bipush 59, 2) := by decide +kernel
theorem dX1_readsNumbers_118 : decode cX1_readsNumbers 118 = .ok (.if_icmp .ne 13, 3) := by decide +kernel
theorem dX1_readsNumbers_121 : decode cX1_readsNumbers 121 = .ok (.aload_n 0, 1) := by decide +kernel
theorem dX1_readsNumbers_122 : decode cX1_readsNumbers 122 = .ok (.iload 5, 2) := by decide +kernel
theorem dX1_readsNumbers_124 : decode cX1_readsNumbers 124 = .ok (.iconst 1, 1) := by decide +kernel
theorem dX1_readsNumbers_125 : decode cX1_readsNumbers 125 = .ok (.iadd, 1) := by decide +kernel
theorem dX1_readsNumbers_126 : decode cX1_readsNumbers 126 = .ok (.putfield 23, 3) := by decide +kernel
theorem dX1_readsNumbers_129 : decode cX1_readsNumbers 129 = .ok (.iconst 1, 1) := by decide +kernel
theorem dX1_readsNumbers_130 : decode cX1_readsNumbers 130 = .ok (.ireturn, 1) := by decide +kernel
theorem dX1_readsNumbers_131 : decode cX1_readsNumbers 131 = .ok (.iconst 0, 1) := by decide +kernel
theorem dX1_readsNumbers_132 : decode cX1_readsNumbers 132 = .ok (.istore_n 3, 1) := by decide +kernel
theorem dX1_readsNumbers_133 : decode cX1_readsNumbers 133 = .ok (.iconst 0, 1) := by decide +kernel
theorem dX1_readsNumbers_134 : decode cX1_readsNumbers 134 = .ok (.istore 4, 2) := by decide +kernel
theorem dX1_readsNumbers_136 : decode cX1_readsNumbers 136 = .ok (.goto 5, 3) := by decide +kernel
theorem dX1_readsNumbers_139 : decode cX1_readsNumbers 139 = .ok (.iconst 0, 1) := by decide +kernel
theorem dX1_readsNumbers_140 : decode cX1_readsNumbers 140 = .ok (.ireturn, 1) := by decide +kernel
theorem dX1_readsNumbers_141 : decode cX1_readsNumbers 141 = .ok (.iinc 5 1, 3) := by decide +kernel
theorem dX1_readsNumbers_144 : decode cX1_readsNumbers 144 = .ok (.goto (-114), 3) := by decide +kernel
theorem dX1_readsNumbers_147 : decode cX1_readsNumbers 147 = .ok (.iconst 0, 1) := by decide +kernel
theorem dX1_readsNumbers_148 : decode cX1_readsNumbers 148 = .ok (.ireturn, 1) := by decide +kernel
theorem dX2_init_0 : decode cX2_init 0 = .ok (.aload_n 0, 1) := by decide +kernel
theorem dX2_init_1 : decode cX2_init 1 = .ok (.invokespecial 3, 3) := by decide +kernel
theorem dX2_init_4 : decode cX2_init 4 = .ok (.aload_n 0, 1) := by decide +kernel
theorem dX2_init_5 : decode cX2_init 5 = .ok (.sipush 1000, 3) := by decide +kernel
theorem dX2_init_8 : decode cX2_init 8 = .ok (.newarray .int, 2) := by decide +kernel
theorem dX2_init_10 : decode cX2_init 10 = .ok (.putfield 9, 3) := by decide +kernel
theorem dX2_init_13 : decode cX2_init 13 = .ok (.aload_n 0, 1) := by decide +kernel
theorem dX2_init_14 : decode cX2_init 14 = .ok (.aload_n 1, 1) := by decide +kernel
theorem dX2_init_15 : decode cX2_init 15 = .ok (.putfield 15, 3) := by decide +kernel
theorem dX2_init_18 : decode cX2_init 18 = .ok (.return_, 1) := by decide +kernel
set_option maxRecDepth 20000 in
theorem ggX2_make_X3_clear : GoodIn wsX2_make wsX3_clear := goodIn_r _ [7, 8, 9, 10, 11, 12, 94] (by decide +kernel) (by decide +kernel)
set_option maxRecDepth 20000 in
theorem gX2_make_X3_clear : GoodIn wsX2_make (wsV RX2 19 RX3 yX3_clear wsX3_clear) := goodIn_app (goodIn_of _ (by decide +kernel)) ggX2_make_X3_clear
set_option maxRecDepth 20000 in
theorem ggX2_make_J7_fill_53178 : GoodIn wsX2_make wsJ7_fill_53178 := goodIn_r _ [12] (by decide +kernel) (by decide +kernel)
set_option maxRecDepth 20000 in
theorem gX2_make_J7_fill_53178 : GoodIn wsX2_make (va_wsS RX2 24 yJ7_fill_53178 wsJ7_fill_53178) := goodIn_app (goodIn_of _ (by decide +kernel)) ggX2_make_J7_fill_53178
set_option maxRecDepth 20000 in
theorem ggX2_make_X2_due : GoodIn wsX2_make wsX2_due := goodIn_r _ [18, 19, 20, 21, 22, 23, 24, 25, 26, 27, 28, 29, 17, 30, 31, 32, 33, 34, 35, 36, 37, 38, 1, 39, 40, 41, 6, 42, 8, 43, 44, 45, 46, 47, 48, 49, 50, 2, 51, 52, 53, 54, 55, 56, 57, 58, 59, 60, 61, 62, 63, 64, 65, 66, 67, 68, 69, 70, 71, 87, 88, 94] (by decide +kernel) (by decide +kernel)
set_option maxRecDepth 20000 in
theorem gX2_make_X2_due : GoodIn wsX2_make (wsV RX2 39 RX2 yX2_due wsX2_due) := goodIn_app (goodIn_of _ (by decide +kernel)) ggX2_make_X2_due
set_option maxRecDepth 20000 in
theorem ggX2_make_X6_size : GoodIn wsX2_make wsX6_size := goodIn_r _ [76, 77, 95, 96] (by decide +kernel) (by decide +kernel)
set_option maxRecDepth 20000 in
theorem gX2_make_X6_size : GoodIn wsX2_make (wsV RX2 47 RX6 yX6_size wsX6_size) := goodIn_app (goodIn_of _ (by decide +kernel)) ggX2_make_X6_size
set_option maxRecDepth 20000 in
theorem ggX2_make_X6_get : GoodIn wsX2_make wsX6_get := goodIn_r _ [81, 77, 82, 95, 96] (by decide +kernel) (by decide +kernel)
set_option maxRecDepth 20000 in
theorem gX2_make_X6_get : GoodIn wsX2_make (wsV RX2 53 RX6 yX6_get wsX6_get) := goodIn_app (goodIn_of _ (by decide +kernel)) ggX2_make_X6_get
set_option maxRecDepth 20000 in
theorem ggX2_make_X10_isNumber : GoodIn wsX2_make wsX10_isNumber := goodIn_r _ [85, 86] (by decide +kernel) (by decide +kernel)
set_option maxRecDepth 20000 in
theorem gX2_make_X10_isNumber_n57 : GoodIn wsX2_make (wsX10_isNumber) := ggX2_make_X10_isNumber
theorem dX2_make_0 : decode cX2_make 0 = .ok (.aload_n 0, 1) := by decide +kernel
theorem dX2_make_1 : decode cX2_make 1 = .ok (.getfield 15, 3) := by decide +kernel
theorem dX2_make_4 : decode cX2_make 4 = .ok (.invokevirtual 19, 3) := by decide +kernel
theorem dX2_make_7 : decode cX2_make 7 = .ok (.aload_n 0, 1) := by decide +kernel
theorem dX2_make_8 : decode cX2_make 8 = .ok (.getfield 9, 3) := by decide +kernel
theorem dX2_make_11 : decode cX2_make 11 = .ok (.iconst 0, 1) := by decide +kernel
theorem dX2_make_12 : decode cX2_make 12 = .ok (.invokestatic 24, 3) := by decide +kernel
theorem dX2_make_15 : decode cX2_make 15 = .ok (.aload_n 1, 1) := by decide +kernel
theorem dX2_make_16 : decode cX2_make 16 = .ok (.getfield 30, 3) := by decide +kernel
theorem dX2_make_19 : decode cX2_make 19 = .ok (.astore_n 2, 1) := by decide +kernel
theorem dX2_make_20 : decode cX2_make 20 = .ok (.iconst 0, 1) := by decide +kernel
theorem dX2_make_21 : decode cX2_make 21 = .ok (.istore_n 3, 1) := by decide +kernel
theorem dX2_make_22 : decode cX2_make 22 = .ok (.iload_n 3, 1) := by decide +kernel
theorem dX2_make_23 : decode cX2_make 23 = .ok (.sipush 2000, 3) := by decide +kernel
theorem dX2_make_26 : decode cX2_make 26 = .ok (.if_icmp .ge 77, 3) := by decide +kernel
theorem dX2_make_29 : decode cX2_make 29 = .ok (.iload_n 3, 1) := by decide +kernel
theorem dX2_make_30 : decode cX2_make 30 = .ok (.aload_n 2, 1) := by decide +kernel
theorem dX2_make_31 : decode cX2_make 31 = .ok (.arraylength, 1) := by decide +kernel
theorem dX2_make_32 : decode cX2_make 32 = .ok (.if_icmp .ge 71, 3) := by decide +kernel
theorem dX2_make_35 : decode cX2_make 35 = .ok (.iload_n 3, 1) := by decide +kernel
theorem dX2_make_36 : decode cX2_make 36 = .ok (.ifCond .ne 7, 3) := by decide +kernel
theorem dX2_make_39 : decode cX2_make 39 = .ok (.iconst 0, 1) := by decide +kernel
theorem dX2_make_40 : decode cX2_make 40 = .ok (.goto 13, 3) := by decide +kernel
theorem dX2_make_43 : decode cX2_make 43 = .ok (.aload_n 0, 1) := by decide +kernel
theorem dX2_make_44 : decode cX2_make 44 = .ok (.aload_n 1, 1) := by decide +kernel
theorem dX2_make_45 : decode cX2_make 45 = .ok (.getfield 35, 3) := by decide +kernel
theorem dX2_make_48 : decode cX2_make 48 = .ok (.aload_n 2, 1) := by decide +kernel
theorem dX2_make_49 : decode cX2_make 49 = .ok (.iload_n 3, 1) := by decide +kernel
theorem dX2_make_50 : decode cX2_make 50 = .ok (.invokevirtual 39, 3) := by decide +kernel
theorem dX2_make_53 : decode cX2_make 53 = .ok (.istore 4, 2) := by decide +kernel
theorem dX2_make_55 : decode cX2_make 55 = .ok (.iload_n 3, 1) := by decide +kernel
theorem dX2_make_56 : decode cX2_make 56 = .ok (.aload_n 1, 1) := by decide +kernel
theorem dX2_make_57 : decode cX2_make 57 = .ok (.getfield 43, 3) := by decide +kernel
theorem dX2_make_60 : decode cX2_make 60 = .ok (.invokevirtual 47, 3) := by decide +kernel
theorem dX2_make_63 : decode cX2_make 63 = .ok (.if_icmp .ge 14, 3) := by decide +kernel
theorem dX2_make_66 : decode cX2_make 66 = .ok (.aload_n 1, 1) := by decide +kernel
theorem dX2_make_67 : decode cX2_make 67 = .ok (.getfield 43, 3) := by decide +kernel
theorem dX2_make_70 : decode cX2_make 70 = .ok (.iload_n 3, 1) := by decide +kernel
theorem dX2_make_71 : decode cX2_make 71 = .ok (.invokevirtual 53, 3) := by decide +kernel
theorem dX2_make_74 : decode cX2_make 74 = .ok (.goto 5, 3) := by decide +kernel
theorem dX2_make_77 : decode cX2_make 77 = .ok (.iload 4, 2) := by decide +kernel
theorem dX2_make_79 : decode cX2_make 79 = .ok (.istore 5, 2) := by decide +kernel
theorem dX2_make_81 : decode cX2_make 81 = .ok (.iload 5, 2) := by decide +kernel
theorem dX2_make_83 : decode cX2_make 83 = .ok (.invokestatic 57, 3) := by decide +kernel
theorem dX2_make_86 : decode cX2_make 86 = .ok (.ifCond .ne 6, 3) := by decide +kernel
theorem dX2_make_89 : decode cX2_make 89 = .ok (.goto 14, 3) := by decide +kernel
theorem dX2_make_92 : decode cX2_make 92 = .ok (.aload_n 2, 1) := by decide +kernel
theorem dX2_make_93 : decode cX2_make 93 = .ok (.iload_n 3, 1) := by decide +kernel
theorem dX2_make_94 : decode cX2_make 94 = .ok (.iload 5, 2) := by decide +kernel
theorem dX2_make_96 : decode cX2_make 96 = .ok (.iastore, 1) := by decide +kernel
theorem dX2_make_97 : decode cX2_make 97 = .ok (.iinc 3 1, 3) := by decide +kernel
theorem dX2_make_100 : decode cX2_make 100 = .ok (.goto (-78), 3) := by decide +kernel
theorem dX2_make_103 : decode cX2_make 103 = .ok (.aload_n 1, 1) := by decide +kernel
theorem dX2_make_104 : decode cX2_make 104 = .ok (.iload_n 3, 1) := by decide +kernel
theorem dX2_make_105 : decode cX2_make 105 = .ok (.putfield 61, 3) := by decide +kernel
theorem dX2_make_108 : decode cX2_make 108 = .ok (.aload_n 1, 1) := by decide +kernel
theorem dX2_make_109 : decode cX2_make 109 = .ok (.iconst 1, 1) := by decide +kernel
theorem dX2_make_110 : decode cX2_make 110 = .ok (.putfield 65, 3) := by decide +kernel
theorem dX2_make_113 : decode cX2_make 113 = .ok (.return_, 1) := by decide +kernel
set_option maxRecDepth 20000 in
theorem ggX2_due_Jx29ce0_ordinal_8abf5 : GoodIn wsX2_due wsJx29ce0_ordinal_8abf5 := goodIn_r _ [7, 8] (by decide +kernel) (by decide +kernel)
set_option maxRecDepth 20000 in
theorem gX2_due_Jx29ce0_ordinal_8abf5_u74X7 : GoodIn wsX2_due (va_wsU RX2 74 RX7 "java/lang/Enum" ⟨"TellingRows$Sort", "ordinal", "()I"⟩ yJx29ce0_ordinal_8abf5 wsJx29ce0_ordinal_8abf5) := goodIn_app (goodIn_of _ (by decide +kernel)) ggX2_due_Jx29ce0_ordinal_8abf5
set_option maxRecDepth 20000 in
theorem ggX2_due_X2_reach : GoodIn wsX2_due wsX2_reach := goodIn_r _ [13] (by decide +kernel) (by decide +kernel)
set_option maxRecDepth 20000 in
theorem gX2_due_X2_reach : GoodIn wsX2_due (wsV RX2 79 RX2 yX2_reach wsX2_reach) := goodIn_app (goodIn_of _ (by decide +kernel)) ggX2_due_X2_reach
set_option maxRecDepth 20000 in
theorem ggX2_due_X2_fold : GoodIn wsX2_due wsX2_fold := goodIn_r _ [17] (by decide +kernel) (by decide +kernel)
set_option maxRecDepth 20000 in
theorem gX2_due_X2_fold : GoodIn wsX2_due (wsV RX2 83 RX2 yX2_fold wsX2_fold) := goodIn_app (goodIn_of _ (by decide +kernel)) ggX2_due_X2_fold
set_option maxRecDepth 20000 in
theorem ggX2_due_X2_back : GoodIn wsX2_due wsX2_back := goodIn_r _ [21, 22, 23, 24, 25, 26, 27, 28, 29, 30, 31, 32, 59, 60, 61] (by decide +kernel) (by decide +kernel)
set_option maxRecDepth 20000 in
theorem gX2_due_X2_back : GoodIn wsX2_due (wsV RX2 86 RX2 yX2_back wsX2_back) := goodIn_app (goodIn_of _ (by decide +kernel)) ggX2_due_X2_back
set_option maxRecDepth 20000 in
theorem ggX2_due_X2_again : GoodIn wsX2_due wsX2_again := goodIn_r _ [36, 37, 38, 39, 40, 41, 59, 60] (by decide +kernel) (by decide +kernel)
set_option maxRecDepth 20000 in
theorem gX2_due_X2_again : GoodIn wsX2_due (wsV RX2 90 RX2 yX2_again wsX2_again) := goodIn_app (goodIn_of _ (by decide +kernel)) ggX2_due_X2_again
set_option maxRecDepth 20000 in
theorem ggX2_due_X2_sum : GoodIn wsX2_due wsX2_sum := goodIn_r _ [45, 22, 46, 47, 48, 49, 26, 50, 28, 23, 24, 25, 27, 59, 60, 61] (by decide +kernel) (by decide +kernel)
set_option maxRecDepth 20000 in
theorem gX2_due_X2_sum : GoodIn wsX2_due (wsV RX2 93 RX2 yX2_sum wsX2_sum) := goodIn_app (goodIn_of _ (by decide +kernel)) ggX2_due_X2_sum
set_option maxRecDepth 20000 in
theorem ggX2_due_X2_soFar : GoodIn wsX2_due wsX2_soFar := goodIn_r _ [54, 22, 47, 48, 49, 26, 50, 28, 23, 24, 25, 27, 59, 60, 61] (by decide +kernel) (by decide +kernel)
set_option maxRecDepth 20000 in
theorem gX2_due_X2_soFar : GoodIn wsX2_due (wsV RX2 96 RX2 yX2_soFar wsX2_soFar) := goodIn_app (goodIn_of _ (by decide +kernel)) ggX2_due_X2_soFar
set_option maxRecDepth 20000 in
theorem ggX2_due_X2_free : GoodIn wsX2_due wsX2_free := goodIn_r _ [58, 22, 29, 30, 31, 26, 32, 28, 23, 24, 25, 27, 59, 60, 61] (by decide +kernel) (by decide +kernel)
set_option maxRecDepth 20000 in
theorem gX2_due_X2_free : GoodIn wsX2_due (wsV RX2 99 RX2 yX2_free wsX2_free) := goodIn_app (goodIn_of _ (by decide +kernel)) ggX2_due_X2_free
theorem dX2_due_0 : decode cX2_due 0 = .ok (.getstatic 69, 3) := by decide +kernel
theorem dX2_due_3 : decode cX2_due 3 = .ok (.aload_n 1, 1) := by decide +kernel
theorem dX2_due_4 : decode cX2_due 4 = .ok (.invokevirtual 74, 3) := by decide +kernel
theorem dX2_due_7 : decode cX2_due 7 = .ok (.iaload, 1) := by decide +kernel
theorem dX2_due_8 : decode cX2_due 8 = .ok (.tableswitch 100 1 7 #[44, 51, 58, 69, 76, 83, 93], 44) := by decide +kernel
theorem dX2_due_52 : decode cX2_due 52 = .ok (.aload_n 0, 1) := by decide +kernel
theorem dX2_due_53 : decode cX2_due 53 = .ok (.aload_n 2, 1) := by decide +kernel
theorem dX2_due_54 : decode cX2_due 54 = .ok (.iload_n 3, 1) := by decide +kernel
theorem dX2_due_55 : decode cX2_due 55 = .ok (.invokevirtual 79, 3) := by decide +kernel
theorem dX2_due_58 : decode cX2_due 58 = .ok (.ireturn, 1) := by decide +kernel
theorem dX2_due_59 : decode cX2_due 59 = .ok (.aload_n 0, 1) := by decide +kernel
theorem dX2_due_60 : decode cX2_due 60 = .ok (.aload_n 2, 1) := by decide +kernel
theorem dX2_due_61 : decode cX2_due 61 = .ok (.iload_n 3, 1) := by decide +kernel
theorem dX2_due_62 : decode cX2_due 62 = .ok (.invokevirtual 83, 3) := by decide +kernel
theorem dX2_due_65 : decode cX2_due 65 = .ok (.ireturn, 1) := by decide +kernel
theorem dX2_due_66 : decode cX2_due 66 = .ok (.aload_n 0, 1) := by decide +kernel
theorem dX2_due_67 : decode cX2_due 67 = .ok (.aload_n 2, 1) := by decide +kernel
theorem dX2_due_68 : decode cX2_due 68 = .ok (.iload_n 3, 1) := by decide +kernel
theorem dX2_due_69 : decode cX2_due 69 = .ok (.iconst 1, 1) := by decide +kernel
theorem dX2_due_70 : decode cX2_due 70 = .ok (.isub, 1) := by decide +kernel
theorem dX2_due_71 : decode cX2_due 71 = .ok (.iaload, 1) := by decide +kernel
theorem dX2_due_72 : decode cX2_due 72 = .ok (.iload_n 3, 1) := by decide +kernel
theorem dX2_due_73 : decode cX2_due 73 = .ok (.invokevirtual 86, 3) := by decide +kernel
theorem dX2_due_76 : decode cX2_due 76 = .ok (.ireturn, 1) := by decide +kernel
theorem dX2_due_77 : decode cX2_due 77 = .ok (.aload_n 0, 1) := by decide +kernel
theorem dX2_due_78 : decode cX2_due 78 = .ok (.aload_n 2, 1) := by decide +kernel
theorem dX2_due_79 : decode cX2_due 79 = .ok (.iload_n 3, 1) := by decide +kernel
theorem dX2_due_80 : decode cX2_due 80 = .ok (.invokevirtual 90, 3) := by decide +kernel
theorem dX2_due_83 : decode cX2_due 83 = .ok (.ireturn, 1) := by decide +kernel
theorem dX2_due_84 : decode cX2_due 84 = .ok (.aload_n 0, 1) := by decide +kernel
theorem dX2_due_85 : decode cX2_due 85 = .ok (.aload_n 2, 1) := by decide +kernel
theorem dX2_due_86 : decode cX2_due 86 = .ok (.iload_n 3, 1) := by decide +kernel
theorem dX2_due_87 : decode cX2_due 87 = .ok (.invokevirtual 93, 3) := by decide +kernel
theorem dX2_due_90 : decode cX2_due 90 = .ok (.ireturn, 1) := by decide +kernel
theorem dX2_due_91 : decode cX2_due 91 = .ok (.aload_n 0, 1) := by decide +kernel
theorem dX2_due_92 : decode cX2_due 92 = .ok (.aload_n 2, 1) := by decide +kernel
theorem dX2_due_93 : decode cX2_due 93 = .ok (.iload_n 3, 1) := by decide +kernel
theorem dX2_due_94 : decode cX2_due 94 = .ok (.iconst 1, 1) := by decide +kernel
theorem dX2_due_95 : decode cX2_due 95 = .ok (.isub, 1) := by decide +kernel
theorem dX2_due_96 : decode cX2_due 96 = .ok (.iaload, 1) := by decide +kernel
theorem dX2_due_97 : decode cX2_due 97 = .ok (.invokevirtual 96, 3) := by decide +kernel
theorem dX2_due_100 : decode cX2_due 100 = .ok (.ireturn, 1) := by decide +kernel
theorem dX2_due_101 : decode cX2_due 101 = .ok (.aload_n 0, 1) := by decide +kernel
theorem dX2_due_102 : decode cX2_due 102 = .ok (.aload_n 2, 1) := by decide +kernel
theorem dX2_due_103 : decode cX2_due 103 = .ok (.iload_n 3, 1) := by decide +kernel
theorem dX2_due_104 : decode cX2_due 104 = .ok (.invokevirtual 99, 3) := by decide +kernel
theorem dX2_due_107 : decode cX2_due 107 = .ok (.ireturn, 1) := by decide +kernel
theorem dX2_due_108 : decode cX2_due 108 = .ok (.bipush (-4), 2) := by decide +kernel
theorem dX2_due_110 : decode cX2_due 110 = .ok (.ireturn, 1) := by decide +kernel
theorem dX2_reach_0 : decode cX2_reach 0 = .ok (.iload_n 2, 1) := by decide +kernel
theorem dX2_reach_1 : decode cX2_reach 1 = .ok (.iconst 2, 1) := by decide +kernel
theorem dX2_reach_2 : decode cX2_reach 2 = .ok (.if_icmp .ge 6, 3) := by decide +kernel
theorem dX2_reach_5 : decode cX2_reach 5 = .ok (.bipush (-4), 2) := by decide +kernel
theorem dX2_reach_7 : decode cX2_reach 7 = .ok (.ireturn, 1) := by decide +kernel
theorem dX2_reach_8 : decode cX2_reach 8 = .ok (.iload_n 2, 1) := by decide +kernel
theorem dX2_reach_9 : decode cX2_reach 9 = .ok (.aload_n 1, 1) := by decide +kernel
theorem dX2_reach_10 : decode cX2_reach 10 = .ok (.iload_n 2, 1) := by decide +kernel
theorem dX2_reach_11 : decode cX2_reach 11 = .ok (.iconst 1, 1) := by decide +kernel
theorem dX2_reach_12 : decode cX2_reach 12 = .ok (.isub, 1) := by decide +kernel
theorem dX2_reach_13 : decode cX2_reach 13 = .ok (.iaload, 1) := by decide +kernel
theorem dX2_reach_14 : decode cX2_reach 14 = .ok (.isub, 1) := by decide +kernel
theorem dX2_reach_15 : decode cX2_reach 15 = .ok (.istore_n 3, 1) := by decide +kernel
theorem dX2_reach_16 : decode cX2_reach 16 = .ok (.iload_n 2, 1) := by decide +kernel
theorem dX2_reach_17 : decode cX2_reach 17 = .ok (.aload_n 1, 1) := by decide +kernel
theorem dX2_reach_18 : decode cX2_reach 18 = .ok (.iload_n 2, 1) := by decide +kernel
theorem dX2_reach_19 : decode cX2_reach 19 = .ok (.iconst 2, 1) := by decide +kernel
theorem dX2_reach_20 : decode cX2_reach 20 = .ok (.isub, 1) := by decide +kernel
theorem dX2_reach_21 : decode cX2_reach 21 = .ok (.iaload, 1) := by decide +kernel
theorem dX2_reach_22 : decode cX2_reach 22 = .ok (.isub, 1) := by decide +kernel
theorem dX2_reach_23 : decode cX2_reach 23 = .ok (.istore 4, 2) := by decide +kernel
theorem dX2_reach_25 : decode cX2_reach 25 = .ok (.iload_n 3, 1) := by decide +kernel
theorem dX2_reach_26 : decode cX2_reach 26 = .ok (.ifCond .lt 23, 3) := by decide +kernel
theorem dX2_reach_29 : decode cX2_reach 29 = .ok (.iload_n 3, 1) := by decide +kernel
theorem dX2_reach_30 : decode cX2_reach 30 = .ok (.iload_n 2, 1) := by decide +kernel
theorem dX2_reach_31 : decode cX2_reach 31 = .ok (.if_icmp .ge 18, 3) := by decide +kernel
theorem dX2_reach_34 : decode cX2_reach 34 = .ok (.iload 4, 2) := by decide +kernel
theorem dX2_reach_36 : decode cX2_reach 36 = .ok (.ifCond .lt 13, 3) := by decide +kernel
theorem dX2_reach_39 : decode cX2_reach 39 = .ok (.iload 4, 2) := by decide +kernel
theorem dX2_reach_41 : decode cX2_reach 41 = .ok (.iload_n 2, 1) := by decide +kernel
theorem dX2_reach_42 : decode cX2_reach 42 = .ok (.if_icmp .ge 7, 3) := by decide +kernel
theorem dX2_reach_45 : decode cX2_reach 45 = .ok (.iconst 1, 1) := by decide +kernel
theorem dX2_reach_46 : decode cX2_reach 46 = .ok (.goto 4, 3) := by decide +kernel
theorem dX2_reach_49 : decode cX2_reach 49 = .ok (.iconst 0, 1) := by decide +kernel
theorem dX2_reach_50 : decode cX2_reach 50 = .ok (.istore 5, 2) := by decide +kernel
theorem dX2_reach_52 : decode cX2_reach 52 = .ok (.iload 5, 2) := by decide +kernel
theorem dX2_reach_54 : decode cX2_reach 54 = .ok (.ifCond .eq 14, 3) := by decide +kernel
theorem dX2_reach_57 : decode cX2_reach 57 = .ok (.aload_n 1, 1) := by decide +kernel
theorem dX2_reach_58 : decode cX2_reach 58 = .ok (.iload_n 3, 1) := by decide +kernel
theorem dX2_reach_59 : decode cX2_reach 59 = .ok (.iaload, 1) := by decide +kernel
theorem dX2_reach_60 : decode cX2_reach 60 = .ok (.aload_n 1, 1) := by decide +kernel
theorem dX2_reach_61 : decode cX2_reach 61 = .ok (.iload 4, 2) := by decide +kernel
theorem dX2_reach_63 : decode cX2_reach 63 = .ok (.iaload, 1) := by decide +kernel
theorem dX2_reach_64 : decode cX2_reach 64 = .ok (.iadd, 1) := by decide +kernel
theorem dX2_reach_65 : decode cX2_reach 65 = .ok (.goto 5, 3) := by decide +kernel
theorem dX2_reach_68 : decode cX2_reach 68 = .ok (.bipush (-4), 2) := by decide +kernel
theorem dX2_reach_70 : decode cX2_reach 70 = .ok (.ireturn, 1) := by decide +kernel
theorem dX2_fold_0 : decode cX2_fold 0 = .ok (.aload_n 1, 1) := by decide +kernel
theorem dX2_fold_1 : decode cX2_fold 1 = .ok (.iload_n 2, 1) := by decide +kernel
theorem dX2_fold_2 : decode cX2_fold 2 = .ok (.iconst 1, 1) := by decide +kernel
theorem dX2_fold_3 : decode cX2_fold 3 = .ok (.isub, 1) := by decide +kernel
theorem dX2_fold_4 : decode cX2_fold 4 = .ok (.iaload, 1) := by decide +kernel
theorem dX2_fold_5 : decode cX2_fold 5 = .ok (.istore_n 3, 1) := by decide +kernel
theorem dX2_fold_6 : decode cX2_fold 6 = .ok (.iload_n 3, 1) := by decide +kernel
theorem dX2_fold_7 : decode cX2_fold 7 = .ok (.iconst 1, 1) := by decide +kernel
theorem dX2_fold_8 : decode cX2_fold 8 = .ok (.if_icmp .lt 22, 3) := by decide +kernel
theorem dX2_fold_11 : decode cX2_fold 11 = .ok (.iload_n 3, 1) := by decide +kernel
theorem dX2_fold_12 : decode cX2_fold 12 = .ok (.iload_n 2, 1) := by decide +kernel
theorem dX2_fold_13 : decode cX2_fold 13 = .ok (.if_icmp .gt 17, 3) := by decide +kernel
theorem dX2_fold_16 : decode cX2_fold 16 = .ok (.aload_n 1, 1) := by decide +kernel
theorem dX2_fold_17 : decode cX2_fold 17 = .ok (.iload_n 3, 1) := by decide +kernel
theorem dX2_fold_18 : decode cX2_fold 18 = .ok (.iconst 1, 1) := by decide +kernel
theorem dX2_fold_19 : decode cX2_fold 19 = .ok (.isub, 1) := by decide +kernel
theorem dX2_fold_20 : decode cX2_fold 20 = .ok (.iaload, 1) := by decide +kernel
theorem dX2_fold_21 : decode cX2_fold 21 = .ok (.aload_n 1, 1) := by decide +kernel
theorem dX2_fold_22 : decode cX2_fold 22 = .ok (.iload_n 2, 1) := by decide +kernel
theorem dX2_fold_23 : decode cX2_fold 23 = .ok (.iload_n 3, 1) := by decide +kernel
theorem dX2_fold_24 : decode cX2_fold 24 = .ok (.isub, 1) := by decide +kernel
theorem dX2_fold_25 : decode cX2_fold 25 = .ok (.iaload, 1) := by decide +kernel
theorem dX2_fold_26 : decode cX2_fold 26 = .ok (.iadd, 1) := by decide +kernel
theorem dX2_fold_27 : decode cX2_fold 27 = .ok (.goto 5, 3) := by decide +kernel
theorem dX2_fold_30 : decode cX2_fold 30 = .ok (.bipush (-4), 2) := by decide +kernel
theorem dX2_fold_32 : decode cX2_fold 32 = .ok (.ireturn, 1) := by decide +kernel
set_option maxRecDepth 20000 in
theorem ggX2_back_X3_of : GoodIn wsX2_back wsX3_of := goodIn_r _ [6, 7, 14] (by decide +kernel) (by decide +kernel)
set_option maxRecDepth 20000 in
theorem gX2_back_X3_of : GoodIn wsX2_back (wsV RX2 102 RX3 yX3_of wsX3_of) := goodIn_app (goodIn_of _ (by decide +kernel)) ggX2_back_X3_of
set_option maxRecDepth 20000 in
theorem ggX2_back_X3_put : GoodIn wsX2_back wsX3_put := goodIn_r _ [11, 7, 14] (by decide +kernel) (by decide +kernel)
set_option maxRecDepth 20000 in
theorem gX2_back_X3_put : GoodIn wsX2_back (wsV RX2 105 RX3 yX3_put wsX3_put) := goodIn_app (goodIn_of _ (by decide +kernel)) ggX2_back_X3_put
theorem dX2_back_0 : decode cX2_back 0 = .ok (.aload_n 0, 1) := by decide +kernel
theorem dX2_back_1 : decode cX2_back 1 = .ok (.getfield 15, 3) := by decide +kernel
theorem dX2_back_4 : decode cX2_back 4 = .ok (.iload_n 1, 1) := by decide +kernel
theorem dX2_back_5 : decode cX2_back 5 = .ok (.invokevirtual 102, 3) := by decide +kernel
theorem dX2_back_8 : decode cX2_back 8 = .ok (.istore_n 3, 1) := by decide +kernel
theorem dX2_back_9 : decode cX2_back 9 = .ok (.aload_n 0, 1) := by decide +kernel
theorem dX2_back_10 : decode cX2_back 10 = .ok (.getfield 15, 3) := by decide +kernel
theorem dX2_back_13 : decode cX2_back 13 = .ok (.iload_n 1, 1) := by decide +kernel
theorem dX2_back_14 : decode cX2_back 14 = .ok (.iload_n 2, 1) := by decide +kernel
theorem dX2_back_15 : decode cX2_back 15 = .ok (.invokevirtual 105, 3) := by decide +kernel
theorem dX2_back_18 : decode cX2_back 18 = .ok (.iload_n 3, 1) := by decide +kernel
theorem dX2_back_19 : decode cX2_back 19 = .ok (.ifCond .ne 7, 3) := by decide +kernel
theorem dX2_back_22 : decode cX2_back 22 = .ok (.iconst 0, 1) := by decide +kernel
theorem dX2_back_23 : decode cX2_back 23 = .ok (.goto 6, 3) := by decide +kernel
theorem dX2_back_26 : decode cX2_back 26 = .ok (.iload_n 2, 1) := by decide +kernel
theorem dX2_back_27 : decode cX2_back 27 = .ok (.iload_n 3, 1) := by decide +kernel
theorem dX2_back_28 : decode cX2_back 28 = .ok (.isub, 1) := by decide +kernel
theorem dX2_back_29 : decode cX2_back 29 = .ok (.ireturn, 1) := by decide +kernel
theorem dX2_again_0 : decode cX2_again 0 = .ok (.iconst 1, 1) := by decide +kernel
theorem dX2_again_1 : decode cX2_again 1 = .ok (.istore_n 3, 1) := by decide +kernel
theorem dX2_again_2 : decode cX2_again 2 = .ok (.iconst 1, 1) := by decide +kernel
theorem dX2_again_3 : decode cX2_again 3 = .ok (.istore 4, 2) := by decide +kernel
theorem dX2_again_5 : decode cX2_again 5 = .ok (.iload 4, 2) := by decide +kernel
theorem dX2_again_7 : decode cX2_again 7 = .ok (.iload_n 2, 1) := by decide +kernel
theorem dX2_again_8 : decode cX2_again 8 = .ok (.if_icmp .ge 84, 3) := by decide +kernel
theorem dX2_again_11 : decode cX2_again 11 = .ok (.iload 4, 2) := by decide +kernel
theorem dX2_again_13 : decode cX2_again 13 = .ok (.aload_n 0, 1) := by decide +kernel
theorem dX2_again_14 : decode cX2_again 14 = .ok (.getfield 9, 3) := by decide +kernel
theorem dX2_again_17 : decode cX2_again 17 = .ok (.arraylength, 1) := by decide +kernel
theorem dX2_again_18 : decode cX2_again 18 = .ok (.if_icmp .ge 74, 3) := by decide +kernel
theorem dX2_again_21 : decode cX2_again 21 = .ok (.aload_n 0, 1) := by decide +kernel
theorem dX2_again_22 : decode cX2_again 22 = .ok (.getfield 9, 3) := by decide +kernel
theorem dX2_again_25 : decode cX2_again 25 = .ok (.iload 4, 2) := by decide +kernel
theorem dX2_again_27 : decode cX2_again 27 = .ok (.aload_n 1, 1) := by decide +kernel
theorem dX2_again_28 : decode cX2_again 28 = .ok (.iload_n 2, 1) := by decide +kernel
theorem dX2_again_29 : decode cX2_again 29 = .ok (.iconst 1, 1) := by decide +kernel
theorem dX2_again_30 : decode cX2_again 30 = .ok (.isub, 1) := by decide +kernel
theorem dX2_again_31 : decode cX2_again 31 = .ok (.iaload, 1) := by decide +kernel
theorem dX2_again_32 : decode cX2_again 32 = .ok (.aload_n 1, 1) := by decide +kernel
theorem dX2_again_33 : decode cX2_again 33 = .ok (.iload_n 2, 1) := by decide +kernel
theorem dX2_again_34 : decode cX2_again 34 = .ok (.iconst 1, 1) := by decide +kernel
theorem dX2_again_35 : decode cX2_again 35 = .ok (.isub, 1) := by decide +kernel
theorem dX2_again_36 : decode cX2_again 36 = .ok (.iload 4, 2) := by decide +kernel
theorem dX2_again_38 : decode cX2_again 38 = .ok (.isub, 1) := by decide +kernel
theorem dX2_again_39 : decode cX2_again 39 = .ok (.iaload, 1) := by decide +kernel
theorem dX2_again_40 : decode cX2_again 40 = .ok (.if_icmp .ne 15, 3) := by decide +kernel
theorem dX2_again_43 : decode cX2_again 43 = .ok (.aload_n 0, 1) := by decide +kernel
theorem dX2_again_44 : decode cX2_again 44 = .ok (.getfield 9, 3) := by decide +kernel
theorem dX2_again_47 : decode cX2_again 47 = .ok (.iload 4, 2) := by decide +kernel
theorem dX2_again_49 : decode cX2_again 49 = .ok (.iaload, 1) := by decide +kernel
theorem dX2_again_50 : decode cX2_again 50 = .ok (.iconst 1, 1) := by decide +kernel
theorem dX2_again_51 : decode cX2_again 51 = .ok (.iadd, 1) := by decide +kernel
theorem dX2_again_52 : decode cX2_again 52 = .ok (.goto 4, 3) := by decide +kernel
theorem dX2_again_55 : decode cX2_again 55 = .ok (.iconst 0, 1) := by decide +kernel
theorem dX2_again_56 : decode cX2_again 56 = .ok (.iastore, 1) := by decide +kernel
theorem dX2_again_57 : decode cX2_again 57 = .ok (.aload_n 0, 1) := by decide +kernel
theorem dX2_again_58 : decode cX2_again 58 = .ok (.getfield 9, 3) := by decide +kernel
theorem dX2_again_61 : decode cX2_again 61 = .ok (.iload 4, 2) := by decide +kernel
theorem dX2_again_63 : decode cX2_again 63 = .ok (.iaload, 1) := by decide +kernel
theorem dX2_again_64 : decode cX2_again 64 = .ok (.iload 4, 2) := by decide +kernel
theorem dX2_again_66 : decode cX2_again 66 = .ok (.if_icmp .lt 20, 3) := by decide +kernel
theorem dX2_again_69 : decode cX2_again 69 = .ok (.iload_n 3, 1) := by decide +kernel
theorem dX2_again_70 : decode cX2_again 70 = .ok (.aload_n 0, 1) := by decide +kernel
theorem dX2_again_71 : decode cX2_again 71 = .ok (.getfield 9, 3) := by decide +kernel
theorem dX2_again_74 : decode cX2_again 74 = .ok (.iload 4, 2) := by decide +kernel
theorem dX2_again_76 : decode cX2_again 76 = .ok (.iaload, 1) := by decide +kernel
theorem dX2_again_77 : decode cX2_again 77 = .ok (.iload 4, 2) := by decide +kernel
theorem dX2_again_79 : decode cX2_again 79 = .ok (.idiv, 1) := by decide +kernel
theorem dX2_again_80 : decode cX2_again 80 = .ok (.iconst 1, 1) := by decide +kernel
theorem dX2_again_81 : decode cX2_again 81 = .ok (.iadd, 1) := by decide +kernel
theorem dX2_again_82 : decode cX2_again 82 = .ok (.invokestatic 109, 3) := by decide +kernel
theorem dX2_again_85 : decode cX2_again 85 = .ok (.istore_n 3, 1) := by decide +kernel
theorem dX2_again_86 : decode cX2_again 86 = .ok (.iinc 4 1, 3) := by decide +kernel
theorem dX2_again_89 : decode cX2_again 89 = .ok (.goto (-84), 3) := by decide +kernel
theorem dX2_again_92 : decode cX2_again 92 = .ok (.iload_n 3, 1) := by decide +kernel
theorem dX2_again_93 : decode cX2_again 93 = .ok (.ireturn, 1) := by decide +kernel
set_option maxRecDepth 20000 in
theorem ggX2_sum_X3_raise : GoodIn wsX2_sum wsX3_raise := goodIn_r _ [7, 8, 15] (by decide +kernel) (by decide +kernel)
set_option maxRecDepth 20000 in
theorem gX2_sum_X3_raise : GoodIn wsX2_sum (wsV RX2 114 RX3 yX3_raise wsX3_raise) := goodIn_app (goodIn_of _ (by decide +kernel)) ggX2_sum_X3_raise
set_option maxRecDepth 20000 in
theorem ggX2_sum_X3_of : GoodIn wsX2_sum wsX3_of := goodIn_r _ [12, 8, 15] (by decide +kernel) (by decide +kernel)
set_option maxRecDepth 20000 in
theorem gX2_sum_X3_of : GoodIn wsX2_sum (wsV RX2 102 RX3 yX3_of wsX3_of) := goodIn_app (goodIn_of _ (by decide +kernel)) ggX2_sum_X3_of
theorem dX2_sum_0 : decode cX2_sum 0 = .ok (.aload_n 1, 1) := by decide +kernel
theorem dX2_sum_1 : decode cX2_sum 1 = .ok (.iload_n 2, 1) := by decide +kernel
theorem dX2_sum_2 : decode cX2_sum 2 = .ok (.iconst 1, 1) := by decide +kernel
theorem dX2_sum_3 : decode cX2_sum 3 = .ok (.isub, 1) := by decide +kernel
theorem dX2_sum_4 : decode cX2_sum 4 = .ok (.iaload, 1) := by decide +kernel
theorem dX2_sum_5 : decode cX2_sum 5 = .ok (.istore_n 3, 1) := by decide +kernel
theorem dX2_sum_6 : decode cX2_sum 6 = .ok (.iconst 0, 1) := by decide +kernel
theorem dX2_sum_7 : decode cX2_sum 7 = .ok (.istore 4, 2) := by decide +kernel
theorem dX2_sum_9 : decode cX2_sum 9 = .ok (.iload 4, 2) := by decide +kernel
theorem dX2_sum_11 : decode cX2_sum 11 = .ok (.iload_n 2, 1) := by decide +kernel
theorem dX2_sum_12 : decode cX2_sum 12 = .ok (.iconst 1, 1) := by decide +kernel
theorem dX2_sum_13 : decode cX2_sum 13 = .ok (.isub, 1) := by decide +kernel
theorem dX2_sum_14 : decode cX2_sum 14 = .ok (.if_icmp .ge 22, 3) := by decide +kernel
theorem dX2_sum_17 : decode cX2_sum 17 = .ok (.aload_n 0, 1) := by decide +kernel
theorem dX2_sum_18 : decode cX2_sum 18 = .ok (.getfield 15, 3) := by decide +kernel
theorem dX2_sum_21 : decode cX2_sum 21 = .ok (.iload_n 3, 1) := by decide +kernel
theorem dX2_sum_22 : decode cX2_sum 22 = .ok (.aload_n 1, 1) := by decide +kernel
theorem dX2_sum_23 : decode cX2_sum 23 = .ok (.iload 4, 2) := by decide +kernel
theorem dX2_sum_25 : decode cX2_sum 25 = .ok (.iaload, 1) := by decide +kernel
theorem dX2_sum_26 : decode cX2_sum 26 = .ok (.iadd, 1) := by decide +kernel
theorem dX2_sum_27 : decode cX2_sum 27 = .ok (.invokevirtual 114, 3) := by decide +kernel
theorem dX2_sum_30 : decode cX2_sum 30 = .ok (.iinc 4 1, 3) := by decide +kernel
theorem dX2_sum_33 : decode cX2_sum 33 = .ok (.goto (-24), 3) := by decide +kernel
theorem dX2_sum_36 : decode cX2_sum 36 = .ok (.iload_n 3, 1) := by decide +kernel
theorem dX2_sum_37 : decode cX2_sum 37 = .ok (.iconst 1, 1) := by decide +kernel
theorem dX2_sum_38 : decode cX2_sum 38 = .ok (.iadd, 1) := by decide +kernel
theorem dX2_sum_39 : decode cX2_sum 39 = .ok (.istore 4, 2) := by decide +kernel
theorem dX2_sum_41 : decode cX2_sum 41 = .ok (.iload 4, 2) := by decide +kernel
theorem dX2_sum_43 : decode cX2_sum 43 = .ok (.ldc 118, 2) := by decide +kernel
theorem dX2_sum_45 : decode cX2_sum 45 = .ok (.if_icmp .gt 25, 3) := by decide +kernel
theorem dX2_sum_48 : decode cX2_sum 48 = .ok (.aload_n 0, 1) := by decide +kernel
theorem dX2_sum_49 : decode cX2_sum 49 = .ok (.getfield 15, 3) := by decide +kernel
theorem dX2_sum_52 : decode cX2_sum 52 = .ok (.iload 4, 2) := by decide +kernel
theorem dX2_sum_54 : decode cX2_sum 54 = .ok (.invokevirtual 102, 3) := by decide +kernel
theorem dX2_sum_57 : decode cX2_sum 57 = .ok (.iconst 1, 1) := by decide +kernel
theorem dX2_sum_58 : decode cX2_sum 58 = .ok (.if_icmp .ne 6, 3) := by decide +kernel
theorem dX2_sum_61 : decode cX2_sum 61 = .ok (.iload 4, 2) := by decide +kernel
theorem dX2_sum_63 : decode cX2_sum 63 = .ok (.ireturn, 1) := by decide +kernel
theorem dX2_sum_64 : decode cX2_sum 64 = .ok (.iinc 4 1, 3) := by decide +kernel
theorem dX2_sum_67 : decode cX2_sum 67 = .ok (.goto (-26), 3) := by decide +kernel
theorem dX2_sum_70 : decode cX2_sum 70 = .ok (.bipush (-4), 2) := by decide +kernel
theorem dX2_sum_72 : decode cX2_sum 72 = .ok (.ireturn, 1) := by decide +kernel
set_option maxRecDepth 20000 in
theorem ggX2_soFar_X3_raise : GoodIn wsX2_soFar wsX3_raise := goodIn_r _ [6, 7, 14] (by decide +kernel) (by decide +kernel)
set_option maxRecDepth 20000 in
theorem gX2_soFar_X3_raise : GoodIn wsX2_soFar (wsV RX2 114 RX3 yX3_raise wsX3_raise) := goodIn_app (goodIn_of _ (by decide +kernel)) ggX2_soFar_X3_raise
set_option maxRecDepth 20000 in
theorem ggX2_soFar_X3_of : GoodIn wsX2_soFar wsX3_of := goodIn_r _ [11, 7, 14] (by decide +kernel) (by decide +kernel)
set_option maxRecDepth 20000 in
theorem gX2_soFar_X3_of : GoodIn wsX2_soFar (wsV RX2 102 RX3 yX3_of wsX3_of) := goodIn_app (goodIn_of _ (by decide +kernel)) ggX2_soFar_X3_of
theorem dX2_soFar_0 : decode cX2_soFar 0 = .ok (.aload_n 0, 1) := by decide +kernel
theorem dX2_soFar_1 : decode cX2_soFar 1 = .ok (.getfield 15, 3) := by decide +kernel
theorem dX2_soFar_4 : decode cX2_soFar 4 = .ok (.iload_n 1, 1) := by decide +kernel
theorem dX2_soFar_5 : decode cX2_soFar 5 = .ok (.invokevirtual 114, 3) := by decide +kernel
theorem dX2_soFar_8 : decode cX2_soFar 8 = .ok (.aload_n 0, 1) := by decide +kernel
theorem dX2_soFar_9 : decode cX2_soFar 9 = .ok (.getfield 15, 3) := by decide +kernel
theorem dX2_soFar_12 : decode cX2_soFar 12 = .ok (.iload_n 1, 1) := by decide +kernel
theorem dX2_soFar_13 : decode cX2_soFar 13 = .ok (.invokevirtual 102, 3) := by decide +kernel
theorem dX2_soFar_16 : decode cX2_soFar 16 = .ok (.ireturn, 1) := by decide +kernel
set_option maxRecDepth 20000 in
theorem ggX2_free_X3_put : GoodIn wsX2_free wsX3_put := goodIn_r _ [6, 7, 14] (by decide +kernel) (by decide +kernel)
set_option maxRecDepth 20000 in
theorem gX2_free_X3_put : GoodIn wsX2_free (wsV RX2 105 RX3 yX3_put wsX3_put) := goodIn_app (goodIn_of _ (by decide +kernel)) ggX2_free_X3_put
set_option maxRecDepth 20000 in
theorem ggX2_free_X3_of : GoodIn wsX2_free wsX3_of := goodIn_r _ [11, 7, 14] (by decide +kernel) (by decide +kernel)
set_option maxRecDepth 20000 in
theorem gX2_free_X3_of : GoodIn wsX2_free (wsV RX2 102 RX3 yX3_of wsX3_of) := goodIn_app (goodIn_of _ (by decide +kernel)) ggX2_free_X3_of
theorem dX2_free_0 : decode cX2_free 0 = .ok (.iconst 1, 1) := by decide +kernel
theorem dX2_free_1 : decode cX2_free 1 = .ok (.istore_n 3, 1) := by decide +kernel
theorem dX2_free_2 : decode cX2_free 2 = .ok (.iconst 2, 1) := by decide +kernel
theorem dX2_free_3 : decode cX2_free 3 = .ok (.iload_n 3, 1) := by decide +kernel
theorem dX2_free_4 : decode cX2_free 4 = .ok (.imul, 1) := by decide +kernel
theorem dX2_free_5 : decode cX2_free 5 = .ok (.iload_n 2, 1) := by decide +kernel
theorem dX2_free_6 : decode cX2_free 6 = .ok (.if_icmp .gt 32, 3) := by decide +kernel
theorem dX2_free_9 : decode cX2_free 9 = .ok (.aload_n 0, 1) := by decide +kernel
theorem dX2_free_10 : decode cX2_free 10 = .ok (.getfield 15, 3) := by decide +kernel
theorem dX2_free_13 : decode cX2_free 13 = .ok (.iconst 2, 1) := by decide +kernel
theorem dX2_free_14 : decode cX2_free 14 = .ok (.aload_n 1, 1) := by decide +kernel
theorem dX2_free_15 : decode cX2_free 15 = .ok (.iload_n 2, 1) := by decide +kernel
theorem dX2_free_16 : decode cX2_free 16 = .ok (.iload_n 3, 1) := by decide +kernel
theorem dX2_free_17 : decode cX2_free 17 = .ok (.isub, 1) := by decide +kernel
theorem dX2_free_18 : decode cX2_free 18 = .ok (.iaload, 1) := by decide +kernel
theorem dX2_free_19 : decode cX2_free 19 = .ok (.imul, 1) := by decide +kernel
theorem dX2_free_20 : decode cX2_free 20 = .ok (.aload_n 1, 1) := by decide +kernel
theorem dX2_free_21 : decode cX2_free 21 = .ok (.iload_n 2, 1) := by decide +kernel
theorem dX2_free_22 : decode cX2_free 22 = .ok (.iconst 2, 1) := by decide +kernel
theorem dX2_free_23 : decode cX2_free 23 = .ok (.iload_n 3, 1) := by decide +kernel
theorem dX2_free_24 : decode cX2_free 24 = .ok (.imul, 1) := by decide +kernel
theorem dX2_free_25 : decode cX2_free 25 = .ok (.isub, 1) := by decide +kernel
theorem dX2_free_26 : decode cX2_free 26 = .ok (.iaload, 1) := by decide +kernel
theorem dX2_free_27 : decode cX2_free 27 = .ok (.isub, 1) := by decide +kernel
theorem dX2_free_28 : decode cX2_free 28 = .ok (.iload_n 2, 1) := by decide +kernel
theorem dX2_free_29 : decode cX2_free 29 = .ok (.invokevirtual 105, 3) := by decide +kernel
theorem dX2_free_32 : decode cX2_free 32 = .ok (.iinc 3 1, 3) := by decide +kernel
theorem dX2_free_35 : decode cX2_free 35 = .ok (.goto (-33), 3) := by decide +kernel
theorem dX2_free_38 : decode cX2_free 38 = .ok (.iconst 0, 1) := by decide +kernel
theorem dX2_free_39 : decode cX2_free 39 = .ok (.istore_n 3, 1) := by decide +kernel
theorem dX2_free_40 : decode cX2_free 40 = .ok (.iload_n 3, 1) := by decide +kernel
theorem dX2_free_41 : decode cX2_free 41 = .ok (.iload_n 2, 1) := by decide +kernel
theorem dX2_free_42 : decode cX2_free 42 = .ok (.if_icmp .gt 23, 3) := by decide +kernel
theorem dX2_free_45 : decode cX2_free 45 = .ok (.aload_n 0, 1) := by decide +kernel
theorem dX2_free_46 : decode cX2_free 46 = .ok (.getfield 15, 3) := by decide +kernel
theorem dX2_free_49 : decode cX2_free 49 = .ok (.iload_n 3, 1) := by decide +kernel
theorem dX2_free_50 : decode cX2_free 50 = .ok (.invokevirtual 102, 3) := by decide +kernel
theorem dX2_free_53 : decode cX2_free 53 = .ok (.iload_n 2, 1) := by decide +kernel
theorem dX2_free_54 : decode cX2_free 54 = .ok (.if_icmp .eq 5, 3) := by decide +kernel
theorem dX2_free_57 : decode cX2_free 57 = .ok (.iload_n 3, 1) := by decide +kernel
theorem dX2_free_58 : decode cX2_free 58 = .ok (.ireturn, 1) := by decide +kernel
theorem dX2_free_59 : decode cX2_free 59 = .ok (.iinc 3 1, 3) := by decide +kernel
theorem dX2_free_62 : decode cX2_free 62 = .ok (.goto (-22), 3) := by decide +kernel
theorem dX2_free_65 : decode cX2_free 65 = .ok (.bipush (-4), 2) := by decide +kernel
theorem dX2_free_67 : decode cX2_free 67 = .ok (.ireturn, 1) := by decide +kernel
theorem dX3_init_0 : decode cX3_init 0 = .ok (.aload_n 0, 1) := by decide +kernel
theorem dX3_init_1 : decode cX3_init 1 = .ok (.invokespecial 3, 3) := by decide +kernel
theorem dX3_init_4 : decode cX3_init 4 = .ok (.aload_n 0, 1) := by decide +kernel
theorem dX3_init_5 : decode cX3_init 5 = .ok (.ldc 9, 2) := by decide +kernel
theorem dX3_init_7 : decode cX3_init 7 = .ok (.newarray .int, 2) := by decide +kernel
theorem dX3_init_9 : decode cX3_init 9 = .ok (.putfield 10, 3) := by decide +kernel
theorem dX3_init_12 : decode cX3_init 12 = .ok (.return_, 1) := by decide +kernel
set_option maxRecDepth 20000 in
theorem ggX3_clear_J7_fill_53178 : GoodIn wsX3_clear wsJ7_fill_53178 := goodIn_r _ [5] (by decide +kernel) (by decide +kernel)
set_option maxRecDepth 20000 in
theorem gX3_clear_J7_fill_53178 : GoodIn wsX3_clear (va_wsS RX3 16 yJ7_fill_53178 wsJ7_fill_53178) := goodIn_app (goodIn_of _ (by decide +kernel)) ggX3_clear_J7_fill_53178
theorem dX3_clear_0 : decode cX3_clear 0 = .ok (.aload_n 0, 1) := by decide +kernel
theorem dX3_clear_1 : decode cX3_clear 1 = .ok (.getfield 10, 3) := by decide +kernel
theorem dX3_clear_4 : decode cX3_clear 4 = .ok (.iconst 0, 1) := by decide +kernel
theorem dX3_clear_5 : decode cX3_clear 5 = .ok (.invokestatic 16, 3) := by decide +kernel
theorem dX3_clear_8 : decode cX3_clear 8 = .ok (.return_, 1) := by decide +kernel
theorem dX3_of_0 : decode cX3_of 0 = .ok (.iload_n 1, 1) := by decide +kernel
theorem dX3_of_1 : decode cX3_of 1 = .ok (.ifCond .lt 21, 3) := by decide +kernel
theorem dX3_of_4 : decode cX3_of 4 = .ok (.iload_n 1, 1) := by decide +kernel
theorem dX3_of_5 : decode cX3_of 5 = .ok (.aload_n 0, 1) := by decide +kernel
theorem dX3_of_6 : decode cX3_of 6 = .ok (.getfield 10, 3) := by decide +kernel
theorem dX3_of_9 : decode cX3_of 9 = .ok (.arraylength, 1) := by decide +kernel
theorem dX3_of_10 : decode cX3_of 10 = .ok (.if_icmp .ge 12, 3) := by decide +kernel
theorem dX3_of_13 : decode cX3_of 13 = .ok (.aload_n 0, 1) := by decide +kernel
theorem dX3_of_14 : decode cX3_of 14 = .ok (.getfield 10, 3) := by decide +kernel
theorem dX3_of_17 : decode cX3_of 17 = .ok (.iload_n 1, 1) := by decide +kernel
theorem dX3_of_18 : decode cX3_of 18 = .ok (.iaload, 1) := by decide +kernel
theorem dX3_of_19 : decode cX3_of 19 = .ok (.goto 4, 3) := by decide +kernel
theorem dX3_of_22 : decode cX3_of 22 = .ok (.iconst 0, 1) := by decide +kernel
theorem dX3_of_23 : decode cX3_of 23 = .ok (.ireturn, 1) := by decide +kernel
theorem dX3_put_0 : decode cX3_put 0 = .ok (.iload_n 1, 1) := by decide +kernel
theorem dX3_put_1 : decode cX3_put 1 = .ok (.ifCond .lt 19, 3) := by decide +kernel
theorem dX3_put_4 : decode cX3_put 4 = .ok (.iload_n 1, 1) := by decide +kernel
theorem dX3_put_5 : decode cX3_put 5 = .ok (.aload_n 0, 1) := by decide +kernel
theorem dX3_put_6 : decode cX3_put 6 = .ok (.getfield 10, 3) := by decide +kernel
theorem dX3_put_9 : decode cX3_put 9 = .ok (.arraylength, 1) := by decide +kernel
theorem dX3_put_10 : decode cX3_put 10 = .ok (.if_icmp .ge 10, 3) := by decide +kernel
theorem dX3_put_13 : decode cX3_put 13 = .ok (.aload_n 0, 1) := by decide +kernel
theorem dX3_put_14 : decode cX3_put 14 = .ok (.getfield 10, 3) := by decide +kernel
theorem dX3_put_17 : decode cX3_put 17 = .ok (.iload_n 1, 1) := by decide +kernel
theorem dX3_put_18 : decode cX3_put 18 = .ok (.iload_n 2, 1) := by decide +kernel
theorem dX3_put_19 : decode cX3_put 19 = .ok (.iastore, 1) := by decide +kernel
theorem dX3_put_20 : decode cX3_put 20 = .ok (.return_, 1) := by decide +kernel
theorem dX3_raise_0 : decode cX3_raise 0 = .ok (.iload_n 1, 1) := by decide +kernel
theorem dX3_raise_1 : decode cX3_raise 1 = .ok (.ifCond .lt 22, 3) := by decide +kernel
theorem dX3_raise_4 : decode cX3_raise 4 = .ok (.iload_n 1, 1) := by decide +kernel
theorem dX3_raise_5 : decode cX3_raise 5 = .ok (.aload_n 0, 1) := by decide +kernel
theorem dX3_raise_6 : decode cX3_raise 6 = .ok (.getfield 10, 3) := by decide +kernel
theorem dX3_raise_9 : decode cX3_raise 9 = .ok (.arraylength, 1) := by decide +kernel
theorem dX3_raise_10 : decode cX3_raise 10 = .ok (.if_icmp .ge 13, 3) := by decide +kernel
theorem dX3_raise_13 : decode cX3_raise 13 = .ok (.aload_n 0, 1) := by decide +kernel
theorem dX3_raise_14 : decode cX3_raise 14 = .ok (.getfield 10, 3) := by decide +kernel
theorem dX3_raise_17 : decode cX3_raise 17 = .ok (.iload_n 1, 1) := by decide +kernel
theorem dX3_raise_18 : decode cX3_raise 18 = .ok (.dup2, 1) := by decide +kernel
theorem dX3_raise_19 : decode cX3_raise 19 = .ok (.iaload, 1) := by decide +kernel
theorem dX3_raise_20 : decode cX3_raise 20 = .ok (.iconst 1, 1) := by decide +kernel
theorem dX3_raise_21 : decode cX3_raise 21 = .ok (.iadd, 1) := by decide +kernel
theorem dX3_raise_22 : decode cX3_raise 22 = .ok (.iastore, 1) := by decide +kernel
theorem dX3_raise_23 : decode cX3_raise 23 = .ok (.return_, 1) := by decide +kernel
set_option maxRecDepth 20000 in
theorem ggX4_init_X6_init : GoodIn wsX4_init wsX6_init := goodIn_r _ [10, 11, 2, 3, 12, 13, 14, 15, 16, 17, 21, 22] (by decide +kernel) (by decide +kernel)
set_option maxRecDepth 20000 in
theorem gX4_init_X6_init : GoodIn wsX4_init (wsX6_init) := ggX4_init_X6_init
theorem dX4_init_0 : decode cX4_init 0 = .ok (.aload_n 0, 1) := by decide +kernel
theorem dX4_init_1 : decode cX4_init 1 = .ok (.invokespecial 3, 3) := by decide +kernel
theorem dX4_init_4 : decode cX4_init 4 = .ok (.aload_n 0, 1) := by decide +kernel
theorem dX4_init_5 : decode cX4_init 5 = .ok (.bipush 61, 2) := by decide +kernel
theorem dX4_init_7 : decode cX4_init 7 = .ok (.anewarray 9, 3) := by decide +kernel
theorem dX4_init_10 : decode cX4_init 10 = .ok (.putfield 11, 3) := by decide +kernel
theorem dX4_init_13 : decode cX4_init 13 = .ok (.iconst 0, 1) := by decide +kernel
theorem dX4_init_14 : decode cX4_init 14 = .ok (.istore_n 1, 1) := by decide +kernel
theorem dX4_init_15 : decode cX4_init 15 = .ok (.iload_n 1, 1) := by decide +kernel
theorem dX4_init_16 : decode cX4_init 16 = .ok (.aload_n 0, 1) := by decide +kernel
theorem dX4_init_17 : decode cX4_init 17 = .ok (.getfield 11, 3) := by decide +kernel
theorem dX4_init_20 : decode cX4_init 20 = .ok (.arraylength, 1) := by decide +kernel
theorem dX4_init_21 : decode cX4_init 21 = .ok (.if_icmp .ge 24, 3) := by decide +kernel
theorem dX4_init_24 : decode cX4_init 24 = .ok (.aload_n 0, 1) := by decide +kernel
theorem dX4_init_25 : decode cX4_init 25 = .ok (.getfield 11, 3) := by decide +kernel
theorem dX4_init_28 : decode cX4_init 28 = .ok (.iload_n 1, 1) := by decide +kernel
theorem dX4_init_29 : decode cX4_init 29 = .ok (.new 9, 3) := by decide +kernel
theorem dX4_init_32 : decode cX4_init 32 = .ok (.dup, 1) := by decide +kernel
theorem dX4_init_33 : decode cX4_init 33 = .ok (.bipush 40, 2) := by decide +kernel
theorem dX4_init_35 : decode cX4_init 35 = .ok (.invokespecial 17, 3) := by decide +kernel
theorem dX4_init_38 : decode cX4_init 38 = .ok (.aastore, 1) := by decide +kernel
theorem dX4_init_39 : decode cX4_init 39 = .ok (.iinc 1 1, 3) := by decide +kernel
theorem dX4_init_42 : decode cX4_init 42 = .ok (.goto (-27), 3) := by decide +kernel
theorem dX4_init_45 : decode cX4_init 45 = .ok (.return_, 1) := by decide +kernel
theorem dX4_tail_0 : decode cX4_tail 0 = .ok (.aload_n 0, 1) := by decide +kernel
theorem dX4_tail_1 : decode cX4_tail 1 = .ok (.getfield 20, 3) := by decide +kernel
theorem dX4_tail_4 : decode cX4_tail 4 = .ok (.ireturn, 1) := by decide +kernel
theorem dX4_length_0 : decode cX4_length 0 = .ok (.aload_n 0, 1) := by decide +kernel
theorem dX4_length_1 : decode cX4_length 1 = .ok (.getfield 24, 3) := by decide +kernel
theorem dX4_length_4 : decode cX4_length 4 = .ok (.ireturn, 1) := by decide +kernel
set_option maxRecDepth 20000 in
theorem ggX4_find_X6_copy : GoodIn wsX4_find wsX6_copy := goodIn_r _ [8, 9, 10, 11, 12, 7, 13, 14, 15, 16, 17, 18, 40, 41] (by decide +kernel) (by decide +kernel)
set_option maxRecDepth 20000 in
theorem gX4_find_X6_copy : GoodIn wsX4_find (wsV RX4 27 RX6 yX6_copy wsX6_copy) := goodIn_app (goodIn_of _ (by decide +kernel)) ggX4_find_X6_copy
set_option maxRecDepth 20000 in
theorem ggX4_find_X8_tally : GoodIn wsX4_find wsX8_tally := goodIn_r _ [22, 23, 24, 25, 7, 26, 9, 27, 28, 29, 30, 31, 11, 12, 13, 14, 32, 16, 17, 18, 40, 41] (by decide +kernel) (by decide +kernel)
set_option maxRecDepth 20000 in
theorem gX4_find_X8_tally : GoodIn wsX4_find (va_wsS RX4 31 yX8_tally wsX8_tally) := goodIn_app (goodIn_of _ (by decide +kernel)) ggX4_find_X8_tally
set_option maxRecDepth 20000 in
theorem ggX4_find_X6_same : GoodIn wsX4_find wsX6_same := goodIn_r _ [36, 9, 10, 11, 12, 7, 13, 14, 40, 41] (by decide +kernel) (by decide +kernel)
set_option maxRecDepth 20000 in
theorem gX4_find_X6_same : GoodIn wsX4_find (wsV RX4 37 RX6 yX6_same wsX6_same) := goodIn_app (goodIn_of _ (by decide +kernel)) ggX4_find_X6_same
theorem dX4_find_0 : decode cX4_find 0 = .ok (.aload_n 0, 1) := by decide +kernel
theorem dX4_find_1 : decode cX4_find 1 = .ok (.getfield 11, 3) := by decide +kernel
theorem dX4_find_4 : decode cX4_find 4 = .ok (.iconst 0, 1) := by decide +kernel
theorem dX4_find_5 : decode cX4_find 5 = .ok (.aaload, 1) := by decide +kernel
theorem dX4_find_6 : decode cX4_find 6 = .ok (.aload_n 1, 1) := by decide +kernel
theorem dX4_find_7 : decode cX4_find 7 = .ok (.invokevirtual 27, 3) := by decide +kernel
theorem dX4_find_10 : decode cX4_find 10 = .ok (.iconst 1, 1) := by decide +kernel
theorem dX4_find_11 : decode cX4_find 11 = .ok (.istore_n 2, 1) := by decide +kernel
theorem dX4_find_12 : decode cX4_find 12 = .ok (.iload_n 2, 1) := by decide +kernel
theorem dX4_find_13 : decode cX4_find 13 = .ok (.aload_n 0, 1) := by decide +kernel
theorem dX4_find_14 : decode cX4_find 14 = .ok (.getfield 11, 3) := by decide +kernel
theorem dX4_find_17 : decode cX4_find 17 = .ok (.arraylength, 1) := by decide +kernel
theorem dX4_find_18 : decode cX4_find 18 = .ok (.if_icmp .ge 76, 3) := by decide +kernel
theorem dX4_find_21 : decode cX4_find 21 = .ok (.aload_n 0, 1) := by decide +kernel
theorem dX4_find_22 : decode cX4_find 22 = .ok (.getfield 11, 3) := by decide +kernel
theorem dX4_find_25 : decode cX4_find 25 = .ok (.iload_n 2, 1) := by decide +kernel
theorem dX4_find_26 : decode cX4_find 26 = .ok (.iconst 1, 1) := by decide +kernel
theorem dX4_find_27 : decode cX4_find 27 = .ok (.isub, 1) := by decide +kernel
theorem dX4_find_28 : decode cX4_find 28 = .ok (.aaload, 1) := by decide +kernel
theorem dX4_find_29 : decode cX4_find 29 = .ok (.aload_n 0, 1) := by decide +kernel
theorem dX4_find_30 : decode cX4_find 30 = .ok (.getfield 11, 3) := by decide +kernel
theorem dX4_find_33 : decode cX4_find 33 = .ok (.iload_n 2, 1) := by decide +kernel
theorem dX4_find_34 : decode cX4_find 34 = .ok (.aaload, 1) := by decide +kernel
theorem dX4_find_35 : decode cX4_find 35 = .ok (.invokestatic 31, 3) := by decide +kernel
theorem dX4_find_38 : decode cX4_find 38 = .ok (.ifCond .ne 5, 3) := by decide +kernel
theorem dX4_find_41 : decode cX4_find 41 = .ok (.iconst 0, 1) := by decide +kernel
theorem dX4_find_42 : decode cX4_find 42 = .ok (.ireturn, 1) := by decide +kernel
theorem dX4_find_43 : decode cX4_find 43 = .ok (.iconst 0, 1) := by decide +kernel
theorem dX4_find_44 : decode cX4_find 44 = .ok (.istore_n 3, 1) := by decide +kernel
theorem dX4_find_45 : decode cX4_find 45 = .ok (.iload_n 3, 1) := by decide +kernel
theorem dX4_find_46 : decode cX4_find 46 = .ok (.iload_n 2, 1) := by decide +kernel
theorem dX4_find_47 : decode cX4_find 47 = .ok (.if_icmp .ge 41, 3) := by decide +kernel
theorem dX4_find_50 : decode cX4_find 50 = .ok (.aload_n 0, 1) := by decide +kernel
theorem dX4_find_51 : decode cX4_find 51 = .ok (.getfield 11, 3) := by decide +kernel
theorem dX4_find_54 : decode cX4_find 54 = .ok (.iload_n 3, 1) := by decide +kernel
theorem dX4_find_55 : decode cX4_find 55 = .ok (.aaload, 1) := by decide +kernel
theorem dX4_find_56 : decode cX4_find 56 = .ok (.aload_n 0, 1) := by decide +kernel
theorem dX4_find_57 : decode cX4_find 57 = .ok (.getfield 11, 3) := by decide +kernel
theorem dX4_find_60 : decode cX4_find 60 = .ok (.iload_n 2, 1) := by decide +kernel
theorem dX4_find_61 : decode cX4_find 61 = .ok (.aaload, 1) := by decide +kernel
theorem dX4_find_62 : decode cX4_find 62 = .ok (.invokevirtual 37, 3) := by decide +kernel
theorem dX4_find_65 : decode cX4_find 65 = .ok (.ifCond .eq 17, 3) := by decide +kernel
theorem dX4_find_68 : decode cX4_find 68 = .ok (.aload_n 0, 1) := by decide +kernel
theorem dX4_find_69 : decode cX4_find 69 = .ok (.iload_n 3, 1) := by decide +kernel
theorem dX4_find_70 : decode cX4_find 70 = .ok (.putfield 20, 3) := by decide +kernel
theorem dX4_find_73 : decode cX4_find 73 = .ok (.aload_n 0, 1) := by decide +kernel
theorem dX4_find_74 : decode cX4_find 74 = .ok (.iload_n 2, 1) := by decide +kernel
theorem dX4_find_75 : decode cX4_find 75 = .ok (.iload_n 3, 1) := by decide +kernel
theorem dX4_find_76 : decode cX4_find 76 = .ok (.isub, 1) := by decide +kernel
theorem dX4_find_77 : decode cX4_find 77 = .ok (.putfield 24, 3) := by decide +kernel
theorem dX4_find_80 : decode cX4_find 80 = .ok (.iconst 1, 1) := by decide +kernel
theorem dX4_find_81 : decode cX4_find 81 = .ok (.ireturn, 1) := by decide +kernel
theorem dX4_find_82 : decode cX4_find 82 = .ok (.iinc 3 1, 3) := by decide +kernel
theorem dX4_find_85 : decode cX4_find 85 = .ok (.goto (-40), 3) := by decide +kernel
theorem dX4_find_88 : decode cX4_find 88 = .ok (.iinc 2 1, 3) := by decide +kernel
theorem dX4_find_91 : decode cX4_find 91 = .ok (.goto (-79), 3) := by decide +kernel
theorem dX4_find_94 : decode cX4_find 94 = .ok (.iconst 0, 1) := by decide +kernel
theorem dX4_find_95 : decode cX4_find 95 = .ok (.ireturn, 1) := by decide +kernel
set_option maxRecDepth 20000 in
theorem ggX5_init_X6_init : GoodIn wsX5_init wsX6_init := goodIn_r _ [14, 15, 2, 3, 16, 17, 18, 19, 8, 20, 26, 27] (by decide +kernel) (by decide +kernel)
set_option maxRecDepth 20000 in
theorem gX5_init_X6_init : GoodIn wsX5_init (wsX6_init) := ggX5_init_X6_init
set_option maxRecDepth 20000 in
theorem ggX5_init_X6_add : GoodIn wsX5_init wsX6_add := goodIn_r _ [24, 25, 20, 26, 27] (by decide +kernel) (by decide +kernel)
set_option maxRecDepth 20000 in
theorem gX5_init_X6_add : GoodIn wsX5_init (wsV RX5 33 RX6 yX6_add wsX6_add) := goodIn_app (goodIn_of _ (by decide +kernel)) ggX5_init_X6_add
theorem dX5_init_0 : decode cX5_init 0 = .ok (.aload_n 0, 1) := by decide +kernel
theorem dX5_init_1 : decode cX5_init 1 = .ok (.invokespecial 3, 3) := by decide +kernel
theorem dX5_init_4 : decode cX5_init 4 = .ok (.aload_n 0, 1) := by decide +kernel
theorem dX5_init_5 : decode cX5_init 5 = .ok (.new 9, 3) := by decide +kernel
theorem dX5_init_8 : decode cX5_init 8 = .ok (.dup, 1) := by decide +kernel
theorem dX5_init_9 : decode cX5_init 9 = .ok (.bipush 6, 2) := by decide +kernel
theorem dX5_init_11 : decode cX5_init 11 = .ok (.invokespecial 11, 3) := by decide +kernel
theorem dX5_init_14 : decode cX5_init 14 = .ok (.putfield 14, 3) := by decide +kernel
theorem dX5_init_17 : decode cX5_init 17 = .ok (.aload_n 0, 1) := by decide +kernel
theorem dX5_init_18 : decode cX5_init 18 = .ok (.sipush 2000, 3) := by decide +kernel
theorem dX5_init_21 : decode cX5_init 21 = .ok (.newarray .int, 2) := by decide +kernel
theorem dX5_init_23 : decode cX5_init 23 = .ok (.putfield 20, 3) := by decide +kernel
theorem dX5_init_26 : decode cX5_init 26 = .ok (.aload_n 0, 1) := by decide +kernel
theorem dX5_init_27 : decode cX5_init 27 = .ok (.getstatic 24, 3) := by decide +kernel
theorem dX5_init_30 : decode cX5_init 30 = .ok (.putfield 30, 3) := by decide +kernel
theorem dX5_init_33 : decode cX5_init 33 = .ok (.aload_n 0, 1) := by decide +kernel
theorem dX5_init_34 : decode cX5_init 34 = .ok (.getfield 14, 3) := by decide +kernel
theorem dX5_init_37 : decode cX5_init 37 = .ok (.iconst 1, 1) := by decide +kernel
theorem dX5_init_38 : decode cX5_init 38 = .ok (.invokevirtual 33, 3) := by decide +kernel
theorem dX5_init_41 : decode cX5_init 41 = .ok (.pop, 1) := by decide +kernel
theorem dX5_init_42 : decode cX5_init 42 = .ok (.aload_n 0, 1) := by decide +kernel
theorem dX5_init_43 : decode cX5_init 43 = .ok (.getfield 14, 3) := by decide +kernel
theorem dX5_init_46 : decode cX5_init 46 = .ok (.iconst 1, 1) := by decide +kernel
theorem dX5_init_47 : decode cX5_init 47 = .ok (.invokevirtual 33, 3) := by decide +kernel
theorem dX5_init_50 : decode cX5_init 50 = .ok (.pop, 1) := by decide +kernel
theorem dX5_init_51 : decode cX5_init 51 = .ok (.return_, 1) := by decide +kernel
set_option maxRecDepth 20000 in
theorem ggX5_become_X1_sort : GoodIn wsX5_become wsX1_sort := goodIn_r _ [8, 9, 10, 11, 12, 13, 14, 15, 16, 31, 32, 33, 34, 35] (by decide +kernel) (by decide +kernel)
set_option maxRecDepth 20000 in
theorem gX5_become_X1_sort : GoodIn wsX5_become (wsV RX5 37 RX1 yX1_sort wsX1_sort) := goodIn_app (goodIn_of _ (by decide +kernel)) ggX5_become_X1_sort
set_option maxRecDepth 20000 in
theorem ggX5_become_X6_copy : GoodIn wsX5_become wsX6_copy := goodIn_r _ [20, 15, 21, 11, 12, 13, 14, 16, 22, 23, 24, 25, 34, 35] (by decide +kernel) (by decide +kernel)
set_option maxRecDepth 20000 in
theorem gX5_become_X6_copy : GoodIn wsX5_become (wsV RX5 43 RX6 yX6_copy wsX6_copy) := goodIn_app (goodIn_of _ (by decide +kernel)) ggX5_become_X6_copy
theorem dX5_become_0 : decode cX5_become 0 = .ok (.aload_n 1, 1) := by decide +kernel
theorem dX5_become_1 : decode cX5_become 1 = .ok (.invokevirtual 37, 3) := by decide +kernel
theorem dX5_become_4 : decode cX5_become 4 = .ok (.astore_n 2, 1) := by decide +kernel
theorem dX5_become_5 : decode cX5_become 5 = .ok (.aload_n 2, 1) := by decide +kernel
theorem dX5_become_6 : decode cX5_become 6 = .ok (.ifnonnull 4, 3) := by decide +kernel
theorem dX5_become_9 : decode cX5_become 9 = .ok (.return_, 1) := by decide +kernel
theorem dX5_become_10 : decode cX5_become 10 = .ok (.aload_n 0, 1) := by decide +kernel
theorem dX5_become_11 : decode cX5_become 11 = .ok (.aload_n 2, 1) := by decide +kernel
theorem dX5_become_12 : decode cX5_become 12 = .ok (.putfield 30, 3) := by decide +kernel
theorem dX5_become_15 : decode cX5_become 15 = .ok (.aload_n 0, 1) := by decide +kernel
theorem dX5_become_16 : decode cX5_become 16 = .ok (.getfield 14, 3) := by decide +kernel
theorem dX5_become_19 : decode cX5_become 19 = .ok (.aload_n 1, 1) := by decide +kernel
theorem dX5_become_20 : decode cX5_become 20 = .ok (.getfield 42, 3) := by decide +kernel
theorem dX5_become_23 : decode cX5_become 23 = .ok (.invokevirtual 43, 3) := by decide +kernel
theorem dX5_become_26 : decode cX5_become 26 = .ok (.aload_n 0, 1) := by decide +kernel
theorem dX5_become_27 : decode cX5_become 27 = .ok (.iconst 0, 1) := by decide +kernel
theorem dX5_become_28 : decode cX5_become 28 = .ok (.putfield 47, 3) := by decide +kernel
theorem dX5_become_31 : decode cX5_become 31 = .ok (.return_, 1) := by decide +kernel
theorem dX5_numberAt_0 : decode cX5_numberAt 0 = .ok (.iload_n 1, 1) := by decide +kernel
theorem dX5_numberAt_1 : decode cX5_numberAt 1 = .ok (.ifCond .lt 27, 3) := by decide +kernel
theorem dX5_numberAt_4 : decode cX5_numberAt 4 = .ok (.iload_n 1, 1) := by decide +kernel
theorem dX5_numberAt_5 : decode cX5_numberAt 5 = .ok (.aload_n 0, 1) := by decide +kernel
theorem dX5_numberAt_6 : decode cX5_numberAt 6 = .ok (.getfield 51, 3) := by decide +kernel
theorem dX5_numberAt_9 : decode cX5_numberAt 9 = .ok (.if_icmp .ge 19, 3) := by decide +kernel
theorem dX5_numberAt_12 : decode cX5_numberAt 12 = .ok (.iload_n 1, 1) := by decide +kernel
theorem dX5_numberAt_13 : decode cX5_numberAt 13 = .ok (.sipush 2000, 3) := by decide +kernel
theorem dX5_numberAt_16 : decode cX5_numberAt 16 = .ok (.if_icmp .ge 12, 3) := by decide +kernel
theorem dX5_numberAt_19 : decode cX5_numberAt 19 = .ok (.aload_n 0, 1) := by decide +kernel
theorem dX5_numberAt_20 : decode cX5_numberAt 20 = .ok (.getfield 20, 3) := by decide +kernel
theorem dX5_numberAt_23 : decode cX5_numberAt 23 = .ok (.iload_n 1, 1) := by decide +kernel
theorem dX5_numberAt_24 : decode cX5_numberAt 24 = .ok (.iaload, 1) := by decide +kernel
theorem dX5_numberAt_25 : decode cX5_numberAt 25 = .ok (.goto 5, 3) := by decide +kernel
theorem dX5_numberAt_28 : decode cX5_numberAt 28 = .ok (.bipush (-4), 2) := by decide +kernel
theorem dX5_numberAt_30 : decode cX5_numberAt 30 = .ok (.ireturn, 1) := by decide +kernel
set_option maxRecDepth 20000 in
theorem ggX5_placeOf_X5_numberAt : GoodIn wsX5_placeOf wsX5_numberAt := goodIn_r _ [6, 1, 7, 8, 9, 10, 11, 12] (by decide +kernel) (by decide +kernel)
set_option maxRecDepth 20000 in
theorem gX5_placeOf_X5_numberAt : GoodIn wsX5_placeOf (wsV RX5 55 RX5 yX5_numberAt wsX5_numberAt) := goodIn_app (goodIn_of _ (by decide +kernel)) ggX5_placeOf_X5_numberAt
theorem dX5_placeOf_0 : decode cX5_placeOf 0 = .ok (.iconst 0, 1) := by decide +kernel
theorem dX5_placeOf_1 : decode cX5_placeOf 1 = .ok (.istore_n 2, 1) := by decide +kernel
theorem dX5_placeOf_2 : decode cX5_placeOf 2 = .ok (.iload_n 2, 1) := by decide +kernel
theorem dX5_placeOf_3 : decode cX5_placeOf 3 = .ok (.aload_n 0, 1) := by decide +kernel
theorem dX5_placeOf_4 : decode cX5_placeOf 4 = .ok (.getfield 51, 3) := by decide +kernel
theorem dX5_placeOf_7 : decode cX5_placeOf 7 = .ok (.if_icmp .ge 20, 3) := by decide +kernel
theorem dX5_placeOf_10 : decode cX5_placeOf 10 = .ok (.aload_n 0, 1) := by decide +kernel
theorem dX5_placeOf_11 : decode cX5_placeOf 11 = .ok (.iload_n 2, 1) := by decide +kernel
theorem dX5_placeOf_12 : decode cX5_placeOf 12 = .ok (.invokevirtual 55, 3) := by decide +kernel
theorem dX5_placeOf_15 : decode cX5_placeOf 15 = .ok (.iload_n 1, 1) := by decide +kernel
theorem dX5_placeOf_16 : decode cX5_placeOf 16 = .ok (.if_icmp .ne 5, 3) := by decide +kernel
theorem dX5_placeOf_19 : decode cX5_placeOf 19 = .ok (.iload_n 2, 1) := by decide +kernel
theorem dX5_placeOf_20 : decode cX5_placeOf 20 = .ok (.ireturn, 1) := by decide +kernel
theorem dX5_placeOf_21 : decode cX5_placeOf 21 = .ok (.iinc 2 1, 3) := by decide +kernel
theorem dX5_placeOf_24 : decode cX5_placeOf 24 = .ok (.goto (-22), 3) := by decide +kernel
theorem dX5_placeOf_27 : decode cX5_placeOf 27 = .ok (.bipush (-4), 2) := by decide +kernel
theorem dX5_placeOf_29 : decode cX5_placeOf 29 = .ok (.ireturn, 1) := by decide +kernel
set_option maxRecDepth 20000 in
theorem ggX5_countOf_X5_numberAt : GoodIn wsX5_countOf wsX5_numberAt := goodIn_r _ [6, 1, 7, 8, 9, 10, 11, 12] (by decide +kernel) (by decide +kernel)
set_option maxRecDepth 20000 in
theorem gX5_countOf_X5_numberAt : GoodIn wsX5_countOf (wsV RX5 55 RX5 yX5_numberAt wsX5_numberAt) := goodIn_app (goodIn_of _ (by decide +kernel)) ggX5_countOf_X5_numberAt
theorem dX5_countOf_0 : decode cX5_countOf 0 = .ok (.iconst 0, 1) := by decide +kernel
theorem dX5_countOf_1 : decode cX5_countOf 1 = .ok (.istore_n 3, 1) := by decide +kernel
theorem dX5_countOf_2 : decode cX5_countOf 2 = .ok (.iconst 0, 1) := by decide +kernel
theorem dX5_countOf_3 : decode cX5_countOf 3 = .ok (.istore 4, 2) := by decide +kernel
theorem dX5_countOf_5 : decode cX5_countOf 5 = .ok (.iload 4, 2) := by decide +kernel
theorem dX5_countOf_7 : decode cX5_countOf 7 = .ok (.iload_n 2, 1) := by decide +kernel
theorem dX5_countOf_8 : decode cX5_countOf 8 = .ok (.if_icmp .ge 31, 3) := by decide +kernel
theorem dX5_countOf_11 : decode cX5_countOf 11 = .ok (.iload 4, 2) := by decide +kernel
theorem dX5_countOf_13 : decode cX5_countOf 13 = .ok (.aload_n 0, 1) := by decide +kernel
theorem dX5_countOf_14 : decode cX5_countOf 14 = .ok (.getfield 51, 3) := by decide +kernel
theorem dX5_countOf_17 : decode cX5_countOf 17 = .ok (.if_icmp .ge 22, 3) := by decide +kernel
theorem dX5_countOf_20 : decode cX5_countOf 20 = .ok (.aload_n 0, 1) := by decide +kernel
theorem dX5_countOf_21 : decode cX5_countOf 21 = .ok (.iload 4, 2) := by decide +kernel
theorem dX5_countOf_23 : decode cX5_countOf 23 = .ok (.invokevirtual 55, 3) := by decide +kernel
theorem dX5_countOf_26 : decode cX5_countOf 26 = .ok (.iload_n 1, 1) := by decide +kernel
theorem dX5_countOf_27 : decode cX5_countOf 27 = .ok (.if_icmp .ne 6, 3) := by decide +kernel
theorem dX5_countOf_30 : decode cX5_countOf 30 = .ok (.iinc 3 1, 3) := by decide +kernel
theorem dX5_countOf_33 : decode cX5_countOf 33 = .ok (.iinc 4 1, 3) := by decide +kernel
theorem dX5_countOf_36 : decode cX5_countOf 36 = .ok (.goto (-31), 3) := by decide +kernel
theorem dX5_countOf_39 : decode cX5_countOf 39 = .ok (.iload_n 3, 1) := by decide +kernel
theorem dX5_countOf_40 : decode cX5_countOf 40 = .ok (.ireturn, 1) := by decide +kernel
set_option maxRecDepth 20000 in
theorem ggX5_runEnd_X5_numberAt : GoodIn wsX5_runEnd wsX5_numberAt := goodIn_r _ [5, 6, 7, 8, 9, 10, 11, 12] (by decide +kernel) (by decide +kernel)
set_option maxRecDepth 20000 in
theorem gX5_runEnd_X5_numberAt : GoodIn wsX5_runEnd (wsV RX5 55 RX5 yX5_numberAt wsX5_numberAt) := goodIn_app (goodIn_of _ (by decide +kernel)) ggX5_runEnd_X5_numberAt
theorem dX5_runEnd_0 : decode cX5_runEnd 0 = .ok (.iload_n 1, 1) := by decide +kernel
theorem dX5_runEnd_1 : decode cX5_runEnd 1 = .ok (.iconst 1, 1) := by decide +kernel
theorem dX5_runEnd_2 : decode cX5_runEnd 2 = .ok (.iadd, 1) := by decide +kernel
theorem dX5_runEnd_3 : decode cX5_runEnd 3 = .ok (.istore_n 3, 1) := by decide +kernel
theorem dX5_runEnd_4 : decode cX5_runEnd 4 = .ok (.iload_n 3, 1) := by decide +kernel
theorem dX5_runEnd_5 : decode cX5_runEnd 5 = .ok (.iload_n 2, 1) := by decide +kernel
theorem dX5_runEnd_6 : decode cX5_runEnd 6 = .ok (.if_icmp .ge 22, 3) := by decide +kernel
theorem dX5_runEnd_9 : decode cX5_runEnd 9 = .ok (.aload_n 0, 1) := by decide +kernel
theorem dX5_runEnd_10 : decode cX5_runEnd 10 = .ok (.iload_n 3, 1) := by decide +kernel
theorem dX5_runEnd_11 : decode cX5_runEnd 11 = .ok (.invokevirtual 55, 3) := by decide +kernel
theorem dX5_runEnd_14 : decode cX5_runEnd 14 = .ok (.aload_n 0, 1) := by decide +kernel
theorem dX5_runEnd_15 : decode cX5_runEnd 15 = .ok (.iload_n 1, 1) := by decide +kernel
theorem dX5_runEnd_16 : decode cX5_runEnd 16 = .ok (.invokevirtual 55, 3) := by decide +kernel
theorem dX5_runEnd_19 : decode cX5_runEnd 19 = .ok (.if_icmp .ne 9, 3) := by decide +kernel
theorem dX5_runEnd_22 : decode cX5_runEnd 22 = .ok (.iinc 3 1, 3) := by decide +kernel
theorem dX5_runEnd_25 : decode cX5_runEnd 25 = .ok (.goto (-21), 3) := by decide +kernel
theorem dX5_runEnd_28 : decode cX5_runEnd 28 = .ok (.iload_n 3, 1) := by decide +kernel
theorem dX5_runEnd_29 : decode cX5_runEnd 29 = .ok (.ireturn, 1) := by decide +kernel
set_option maxRecDepth 20000 in
theorem ggX5_runStart_X5_runEnd : GoodIn wsX5_runStart wsX5_runEnd := goodIn_r _ [6, 7, 8, 9, 5, 10, 1, 11, 12, 13, 14, 15, 16] (by decide +kernel) (by decide +kernel)
set_option maxRecDepth 20000 in
theorem gX5_runStart_X5_runEnd : GoodIn wsX5_runStart (wsV RX5 59 RX5 yX5_runEnd wsX5_runEnd) := goodIn_app (goodIn_of _ (by decide +kernel)) ggX5_runStart_X5_runEnd
theorem dX5_runStart_0 : decode cX5_runStart 0 = .ok (.iconst 0, 1) := by decide +kernel
theorem dX5_runStart_1 : decode cX5_runStart 1 = .ok (.istore_n 2, 1) := by decide +kernel
theorem dX5_runStart_2 : decode cX5_runStart 2 = .ok (.iconst 0, 1) := by decide +kernel
theorem dX5_runStart_3 : decode cX5_runStart 3 = .ok (.istore_n 3, 1) := by decide +kernel
theorem dX5_runStart_4 : decode cX5_runStart 4 = .ok (.iload_n 3, 1) := by decide +kernel
theorem dX5_runStart_5 : decode cX5_runStart 5 = .ok (.iload_n 1, 1) := by decide +kernel
theorem dX5_runStart_6 : decode cX5_runStart 6 = .ok (.if_icmp .ge 27, 3) := by decide +kernel
theorem dX5_runStart_9 : decode cX5_runStart 9 = .ok (.iload_n 2, 1) := by decide +kernel
theorem dX5_runStart_10 : decode cX5_runStart 10 = .ok (.aload_n 0, 1) := by decide +kernel
theorem dX5_runStart_11 : decode cX5_runStart 11 = .ok (.getfield 51, 3) := by decide +kernel
theorem dX5_runStart_14 : decode cX5_runStart 14 = .ok (.if_icmp .ge 19, 3) := by decide +kernel
theorem dX5_runStart_17 : decode cX5_runStart 17 = .ok (.aload_n 0, 1) := by decide +kernel
theorem dX5_runStart_18 : decode cX5_runStart 18 = .ok (.iload_n 2, 1) := by decide +kernel
theorem dX5_runStart_19 : decode cX5_runStart 19 = .ok (.aload_n 0, 1) := by decide +kernel
theorem dX5_runStart_20 : decode cX5_runStart 20 = .ok (.getfield 51, 3) := by decide +kernel
theorem dX5_runStart_23 : decode cX5_runStart 23 = .ok (.invokevirtual 59, 3) := by decide +kernel
theorem dX5_runStart_26 : decode cX5_runStart 26 = .ok (.istore_n 2, 1) := by decide +kernel
theorem dX5_runStart_27 : decode cX5_runStart 27 = .ok (.iinc 3 1, 3) := by decide +kernel
theorem dX5_runStart_30 : decode cX5_runStart 30 = .ok (.goto (-26), 3) := by decide +kernel
theorem dX5_runStart_33 : decode cX5_runStart 33 = .ok (.iload_n 2, 1) := by decide +kernel
theorem dX5_runStart_34 : decode cX5_runStart 34 = .ok (.aload_n 0, 1) := by decide +kernel
theorem dX5_runStart_35 : decode cX5_runStart 35 = .ok (.getfield 51, 3) := by decide +kernel
theorem dX5_runStart_38 : decode cX5_runStart 38 = .ok (.if_icmp .ge 7, 3) := by decide +kernel
theorem dX5_runStart_41 : decode cX5_runStart 41 = .ok (.iload_n 2, 1) := by decide +kernel
theorem dX5_runStart_42 : decode cX5_runStart 42 = .ok (.goto 5, 3) := by decide +kernel
theorem dX5_runStart_45 : decode cX5_runStart 45 = .ok (.bipush (-4), 2) := by decide +kernel
theorem dX5_runStart_47 : decode cX5_runStart 47 = .ok (.ireturn, 1) := by decide +kernel
set_option maxRecDepth 20000 in
theorem ggX5_greatest_X5_numberAt : GoodIn wsX5_greatest wsX5_numberAt := goodIn_r _ [10, 1, 11, 12, 13, 14, 15, 16] (by decide +kernel) (by decide +kernel)
set_option maxRecDepth 20000 in
theorem gX5_greatest_X5_numberAt : GoodIn wsX5_greatest (wsV RX5 55 RX5 yX5_numberAt wsX5_numberAt) := goodIn_app (goodIn_of _ (by decide +kernel)) ggX5_greatest_X5_numberAt
theorem dX5_greatest_0 : decode cX5_greatest 0 = .ok (.bipush (-4), 2) := by decide +kernel
theorem dX5_greatest_2 : decode cX5_greatest 2 = .ok (.istore_n 2, 1) := by decide +kernel
theorem dX5_greatest_3 : decode cX5_greatest 3 = .ok (.iconst 0, 1) := by decide +kernel
theorem dX5_greatest_4 : decode cX5_greatest 4 = .ok (.istore_n 3, 1) := by decide +kernel
theorem dX5_greatest_5 : decode cX5_greatest 5 = .ok (.iload_n 3, 1) := by decide +kernel
theorem dX5_greatest_6 : decode cX5_greatest 6 = .ok (.iload_n 1, 1) := by decide +kernel
theorem dX5_greatest_7 : decode cX5_greatest 7 = .ok (.if_icmp .ge 27, 3) := by decide +kernel
theorem dX5_greatest_10 : decode cX5_greatest 10 = .ok (.iload_n 3, 1) := by decide +kernel
theorem dX5_greatest_11 : decode cX5_greatest 11 = .ok (.aload_n 0, 1) := by decide +kernel
theorem dX5_greatest_12 : decode cX5_greatest 12 = .ok (.getfield 51, 3) := by decide +kernel
theorem dX5_greatest_15 : decode cX5_greatest 15 = .ok (.if_icmp .ge 19, 3) := by decide +kernel
theorem dX5_greatest_18 : decode cX5_greatest 18 = .ok (.iload_n 2, 1) := by decide +kernel
theorem dX5_greatest_19 : decode cX5_greatest 19 = .ok (.aload_n 0, 1) := by decide +kernel
theorem dX5_greatest_20 : decode cX5_greatest 20 = .ok (.iload_n 3, 1) := by decide +kernel
theorem dX5_greatest_21 : decode cX5_greatest 21 = .ok (.invokevirtual 55, 3) := by decide +kernel
theorem dX5_greatest_24 : decode cX5_greatest 24 = .ok (.invokestatic 63, 3) := by decide +kernel
theorem dX5_greatest_27 : decode cX5_greatest 27 = .ok (.istore_n 2, 1) := by decide +kernel
theorem dX5_greatest_28 : decode cX5_greatest 28 = .ok (.iinc 3 1, 3) := by decide +kernel
theorem dX5_greatest_31 : decode cX5_greatest 31 = .ok (.goto (-26), 3) := by decide +kernel
theorem dX5_greatest_34 : decode cX5_greatest 34 = .ok (.iload_n 2, 1) := by decide +kernel
theorem dX5_greatest_35 : decode cX5_greatest 35 = .ok (.ireturn, 1) := by decide +kernel
set_option maxRecDepth 20000 in
theorem ggX5_longestRun_X5_runEnd : GoodIn wsX5_longestRun wsX5_runEnd := goodIn_r _ [13, 14, 15, 16, 12, 17, 1, 18, 19, 20, 21, 22, 23] (by decide +kernel) (by decide +kernel)
set_option maxRecDepth 20000 in
theorem gX5_longestRun_X5_runEnd : GoodIn wsX5_longestRun (wsV RX5 59 RX5 yX5_runEnd wsX5_runEnd) := goodIn_app (goodIn_of _ (by decide +kernel)) ggX5_longestRun_X5_runEnd
theorem dX5_longestRun_0 : decode cX5_longestRun 0 = .ok (.iload_n 1, 1) := by decide +kernel
theorem dX5_longestRun_1 : decode cX5_longestRun 1 = .ok (.aload_n 0, 1) := by decide +kernel
theorem dX5_longestRun_2 : decode cX5_longestRun 2 = .ok (.getfield 51, 3) := by decide +kernel
theorem dX5_longestRun_5 : decode cX5_longestRun 5 = .ok (.invokestatic 68, 3) := by decide +kernel
theorem dX5_longestRun_8 : decode cX5_longestRun 8 = .ok (.istore_n 2, 1) := by decide +kernel
theorem dX5_longestRun_9 : decode cX5_longestRun 9 = .ok (.iconst 0, 1) := by decide +kernel
theorem dX5_longestRun_10 : decode cX5_longestRun 10 = .ok (.istore_n 3, 1) := by decide +kernel
theorem dX5_longestRun_11 : decode cX5_longestRun 11 = .ok (.iconst 0, 1) := by decide +kernel
theorem dX5_longestRun_12 : decode cX5_longestRun 12 = .ok (.istore 4, 2) := by decide +kernel
theorem dX5_longestRun_14 : decode cX5_longestRun 14 = .ok (.iconst 0, 1) := by decide +kernel
theorem dX5_longestRun_15 : decode cX5_longestRun 15 = .ok (.istore 5, 2) := by decide +kernel
theorem dX5_longestRun_17 : decode cX5_longestRun 17 = .ok (.iload 5, 2) := by decide +kernel
theorem dX5_longestRun_19 : decode cX5_longestRun 19 = .ok (.sipush 2000, 3) := by decide +kernel
theorem dX5_longestRun_22 : decode cX5_longestRun 22 = .ok (.if_icmp .ge 38, 3) := by decide +kernel
theorem dX5_longestRun_25 : decode cX5_longestRun 25 = .ok (.iload 4, 2) := by decide +kernel
theorem dX5_longestRun_27 : decode cX5_longestRun 27 = .ok (.iload_n 2, 1) := by decide +kernel
theorem dX5_longestRun_28 : decode cX5_longestRun 28 = .ok (.if_icmp .ge 32, 3) := by decide +kernel
theorem dX5_longestRun_31 : decode cX5_longestRun 31 = .ok (.aload_n 0, 1) := by decide +kernel
theorem dX5_longestRun_32 : decode cX5_longestRun 32 = .ok (.iload 4, 2) := by decide +kernel
theorem dX5_longestRun_34 : decode cX5_longestRun 34 = .ok (.iload_n 2, 1) := by decide +kernel
theorem dX5_longestRun_35 : decode cX5_longestRun 35 = .ok (.invokevirtual 59, 3) := by decide +kernel
theorem dX5_longestRun_38 : decode cX5_longestRun 38 = .ok (.istore 6, 2) := by decide +kernel
theorem dX5_longestRun_40 : decode cX5_longestRun 40 = .ok (.iload_n 3, 1) := by decide +kernel
theorem dX5_longestRun_41 : decode cX5_longestRun 41 = .ok (.iload 6, 2) := by decide +kernel
theorem dX5_longestRun_43 : decode cX5_longestRun 43 = .ok (.iload 4, 2) := by decide +kernel
theorem dX5_longestRun_45 : decode cX5_longestRun 45 = .ok (.isub, 1) := by decide +kernel
theorem dX5_longestRun_46 : decode cX5_longestRun 46 = .ok (.invokestatic 63, 3) := by decide +kernel
theorem dX5_longestRun_49 : decode cX5_longestRun 49 = .ok (.istore_n 3, 1) := by decide +kernel
theorem dX5_longestRun_50 : decode cX5_longestRun 50 = .ok (.iload 6, 2) := by decide +kernel
theorem dX5_longestRun_52 : decode cX5_longestRun 52 = .ok (.istore 4, 2) := by decide +kernel
theorem dX5_longestRun_54 : decode cX5_longestRun 54 = .ok (.iinc 5 1, 3) := by decide +kernel
theorem dX5_longestRun_57 : decode cX5_longestRun 57 = .ok (.goto (-40), 3) := by decide +kernel
theorem dX5_longestRun_60 : decode cX5_longestRun 60 = .ok (.iload_n 3, 1) := by decide +kernel
theorem dX5_longestRun_61 : decode cX5_longestRun 61 = .ok (.ireturn, 1) := by decide +kernel
set_option maxRecDepth 20000 in
theorem ggX5_unlike_X3_clear : GoodIn wsX5_unlike wsX3_clear := goodIn_r _ [6, 7, 8, 9, 10, 11, 31] (by decide +kernel) (by decide +kernel)
set_option maxRecDepth 20000 in
theorem gX5_unlike_X3_clear : GoodIn wsX5_unlike (wsV RX5 71 RX3 yX3_clear wsX3_clear) := goodIn_app (goodIn_of _ (by decide +kernel)) ggX5_unlike_X3_clear
set_option maxRecDepth 20000 in
theorem ggX5_unlike_X5_numberAt : GoodIn wsX5_unlike wsX5_numberAt := goodIn_r _ [16, 1, 17, 26, 27, 28, 29, 30] (by decide +kernel) (by decide +kernel)
set_option maxRecDepth 20000 in
theorem gX5_unlike_X5_numberAt : GoodIn wsX5_unlike (wsV RX5 55 RX5 yX5_numberAt wsX5_numberAt) := goodIn_app (goodIn_of _ (by decide +kernel)) ggX5_unlike_X5_numberAt
set_option maxRecDepth 20000 in
theorem ggX5_unlike_X3_of : GoodIn wsX5_unlike wsX3_of := goodIn_r _ [21, 7, 31] (by decide +kernel) (by decide +kernel)
set_option maxRecDepth 20000 in
theorem gX5_unlike_X3_of : GoodIn wsX5_unlike (wsV RX5 76 RX3 yX3_of wsX3_of) := goodIn_app (goodIn_of _ (by decide +kernel)) ggX5_unlike_X3_of
set_option maxRecDepth 20000 in
theorem ggX5_unlike_X3_put : GoodIn wsX5_unlike wsX3_put := goodIn_r _ [25, 7, 31] (by decide +kernel) (by decide +kernel)
set_option maxRecDepth 20000 in
theorem gX5_unlike_X3_put : GoodIn wsX5_unlike (wsV RX5 79 RX3 yX3_put wsX3_put) := goodIn_app (goodIn_of _ (by decide +kernel)) ggX5_unlike_X3_put
theorem dX5_unlike_0 : decode cX5_unlike 0 = .ok (.aload_n 2, 1) := by decide +kernel
theorem dX5_unlike_1 : decode cX5_unlike 1 = .ok (.invokevirtual 71, 3) := by decide +kernel
theorem dX5_unlike_4 : decode cX5_unlike 4 = .ok (.iconst 0, 1) := by decide +kernel
theorem dX5_unlike_5 : decode cX5_unlike 5 = .ok (.istore_n 3, 1) := by decide +kernel
theorem dX5_unlike_6 : decode cX5_unlike 6 = .ok (.iconst 0, 1) := by decide +kernel
theorem dX5_unlike_7 : decode cX5_unlike 7 = .ok (.istore 4, 2) := by decide +kernel
theorem dX5_unlike_9 : decode cX5_unlike 9 = .ok (.iload 4, 2) := by decide +kernel
theorem dX5_unlike_11 : decode cX5_unlike 11 = .ok (.iload_n 1, 1) := by decide +kernel
theorem dX5_unlike_12 : decode cX5_unlike 12 = .ok (.if_icmp .ge 45, 3) := by decide +kernel
theorem dX5_unlike_15 : decode cX5_unlike 15 = .ok (.iload 4, 2) := by decide +kernel
theorem dX5_unlike_17 : decode cX5_unlike 17 = .ok (.aload_n 0, 1) := by decide +kernel
theorem dX5_unlike_18 : decode cX5_unlike 18 = .ok (.getfield 51, 3) := by decide +kernel
theorem dX5_unlike_21 : decode cX5_unlike 21 = .ok (.if_icmp .ge 36, 3) := by decide +kernel
theorem dX5_unlike_24 : decode cX5_unlike 24 = .ok (.aload_n 2, 1) := by decide +kernel
theorem dX5_unlike_25 : decode cX5_unlike 25 = .ok (.aload_n 0, 1) := by decide +kernel
theorem dX5_unlike_26 : decode cX5_unlike 26 = .ok (.iload 4, 2) := by decide +kernel
theorem dX5_unlike_28 : decode cX5_unlike 28 = .ok (.invokevirtual 55, 3) := by decide +kernel
theorem dX5_unlike_31 : decode cX5_unlike 31 = .ok (.invokevirtual 76, 3) := by decide +kernel
theorem dX5_unlike_34 : decode cX5_unlike 34 = .ok (.ifCond .ne 17, 3) := by decide +kernel
theorem dX5_unlike_37 : decode cX5_unlike 37 = .ok (.aload_n 2, 1) := by decide +kernel
theorem dX5_unlike_38 : decode cX5_unlike 38 = .ok (.aload_n 0, 1) := by decide +kernel
theorem dX5_unlike_39 : decode cX5_unlike 39 = .ok (.iload 4, 2) := by decide +kernel
theorem dX5_unlike_41 : decode cX5_unlike 41 = .ok (.invokevirtual 55, 3) := by decide +kernel
theorem dX5_unlike_44 : decode cX5_unlike 44 = .ok (.iconst 1, 1) := by decide +kernel
theorem dX5_unlike_45 : decode cX5_unlike 45 = .ok (.invokevirtual 79, 3) := by decide +kernel
theorem dX5_unlike_48 : decode cX5_unlike 48 = .ok (.iinc 3 1, 3) := by decide +kernel
theorem dX5_unlike_51 : decode cX5_unlike 51 = .ok (.iinc 4 1, 3) := by decide +kernel
theorem dX5_unlike_54 : decode cX5_unlike 54 = .ok (.goto (-45), 3) := by decide +kernel
theorem dX5_unlike_57 : decode cX5_unlike 57 = .ok (.iload_n 3, 1) := by decide +kernel
theorem dX5_unlike_58 : decode cX5_unlike 58 = .ok (.ireturn, 1) := by decide +kernel
set_option maxRecDepth 20000 in
theorem ggX5_period_X5_tail : GoodIn wsX5_period wsX5_tail := goodIn_r _ [6, 1, 7, 8, 9, 10, 11, 12, 13, 5, 14, 15, 16, 17, 18, 19, 20] (by decide +kernel) (by decide +kernel)
set_option maxRecDepth 20000 in
theorem gX5_period_X5_tail : GoodIn wsX5_period (wsV RX5 83 RX5 yX5_tail wsX5_tail) := goodIn_app (goodIn_of _ (by decide +kernel)) ggX5_period_X5_tail
theorem dX5_period_0 : decode cX5_period 0 = .ok (.iconst 1, 1) := by decide +kernel
theorem dX5_period_1 : decode cX5_period 1 = .ok (.istore_n 1, 1) := by decide +kernel
theorem dX5_period_2 : decode cX5_period 2 = .ok (.iload_n 1, 1) := by decide +kernel
theorem dX5_period_3 : decode cX5_period 3 = .ok (.sipush 600, 3) := by decide +kernel
theorem dX5_period_6 : decode cX5_period 6 = .ok (.if_icmp .gt 37, 3) := by decide +kernel
theorem dX5_period_9 : decode cX5_period 9 = .ok (.iconst 3, 1) := by decide +kernel
theorem dX5_period_10 : decode cX5_period 10 = .ok (.iload_n 1, 1) := by decide +kernel
theorem dX5_period_11 : decode cX5_period 11 = .ok (.imul, 1) := by decide +kernel
theorem dX5_period_12 : decode cX5_period 12 = .ok (.aload_n 0, 1) := by decide +kernel
theorem dX5_period_13 : decode cX5_period 13 = .ok (.getfield 51, 3) := by decide +kernel
theorem dX5_period_16 : decode cX5_period 16 = .ok (.if_icmp .gt 27, 3) := by decide +kernel
theorem dX5_period_19 : decode cX5_period 19 = .ok (.aload_n 0, 1) := by decide +kernel
theorem dX5_period_20 : decode cX5_period 20 = .ok (.getfield 51, 3) := by decide +kernel
theorem dX5_period_23 : decode cX5_period 23 = .ok (.aload_n 0, 1) := by decide +kernel
theorem dX5_period_24 : decode cX5_period 24 = .ok (.iload_n 1, 1) := by decide +kernel
theorem dX5_period_25 : decode cX5_period 25 = .ok (.invokevirtual 83, 3) := by decide +kernel
theorem dX5_period_28 : decode cX5_period 28 = .ok (.isub, 1) := by decide +kernel
theorem dX5_period_29 : decode cX5_period 29 = .ok (.iconst 3, 1) := by decide +kernel
theorem dX5_period_30 : decode cX5_period 30 = .ok (.iload_n 1, 1) := by decide +kernel
theorem dX5_period_31 : decode cX5_period 31 = .ok (.imul, 1) := by decide +kernel
theorem dX5_period_32 : decode cX5_period 32 = .ok (.if_icmp .lt 5, 3) := by decide +kernel
theorem dX5_period_35 : decode cX5_period 35 = .ok (.iload_n 1, 1) := by decide +kernel
theorem dX5_period_36 : decode cX5_period 36 = .ok (.ireturn, 1) := by decide +kernel
theorem dX5_period_37 : decode cX5_period 37 = .ok (.iinc 1 1, 3) := by decide +kernel
theorem dX5_period_40 : decode cX5_period 40 = .ok (.goto (-38), 3) := by decide +kernel
theorem dX5_period_43 : decode cX5_period 43 = .ok (.bipush (-4), 2) := by decide +kernel
theorem dX5_period_45 : decode cX5_period 45 = .ok (.ireturn, 1) := by decide +kernel
set_option maxRecDepth 20000 in
theorem ggX5_tail_X5_numberAt : GoodIn wsX5_tail wsX5_numberAt := goodIn_r _ [10, 1, 11, 12, 13, 14, 15, 16] (by decide +kernel) (by decide +kernel)
set_option maxRecDepth 20000 in
theorem gX5_tail_X5_numberAt : GoodIn wsX5_tail (wsV RX5 55 RX5 yX5_numberAt wsX5_numberAt) := goodIn_app (goodIn_of _ (by decide +kernel)) ggX5_tail_X5_numberAt
theorem dX5_tail_0 : decode cX5_tail 0 = .ok (.aload_n 0, 1) := by decide +kernel
theorem dX5_tail_1 : decode cX5_tail 1 = .ok (.getfield 51, 3) := by decide +kernel
theorem dX5_tail_4 : decode cX5_tail 4 = .ok (.iload_n 1, 1) := by decide +kernel
theorem dX5_tail_5 : decode cX5_tail 5 = .ok (.isub, 1) := by decide +kernel
theorem dX5_tail_6 : decode cX5_tail 6 = .ok (.iconst 0, 1) := by decide +kernel
theorem dX5_tail_7 : decode cX5_tail 7 = .ok (.invokestatic 63, 3) := by decide +kernel
theorem dX5_tail_10 : decode cX5_tail 10 = .ok (.istore_n 2, 1) := by decide +kernel
theorem dX5_tail_11 : decode cX5_tail 11 = .ok (.iload_n 2, 1) := by decide +kernel
theorem dX5_tail_12 : decode cX5_tail 12 = .ok (.ifCond .le 28, 3) := by decide +kernel
theorem dX5_tail_15 : decode cX5_tail 15 = .ok (.aload_n 0, 1) := by decide +kernel
theorem dX5_tail_16 : decode cX5_tail 16 = .ok (.iload_n 2, 1) := by decide +kernel
theorem dX5_tail_17 : decode cX5_tail 17 = .ok (.iconst 1, 1) := by decide +kernel
theorem dX5_tail_18 : decode cX5_tail 18 = .ok (.isub, 1) := by decide +kernel
theorem dX5_tail_19 : decode cX5_tail 19 = .ok (.invokevirtual 55, 3) := by decide +kernel
theorem dX5_tail_22 : decode cX5_tail 22 = .ok (.aload_n 0, 1) := by decide +kernel
theorem dX5_tail_23 : decode cX5_tail 23 = .ok (.iload_n 2, 1) := by decide +kernel
theorem dX5_tail_24 : decode cX5_tail 24 = .ok (.iconst 1, 1) := by decide +kernel
theorem dX5_tail_25 : decode cX5_tail 25 = .ok (.isub, 1) := by decide +kernel
theorem dX5_tail_26 : decode cX5_tail 26 = .ok (.iload_n 1, 1) := by decide +kernel
theorem dX5_tail_27 : decode cX5_tail 27 = .ok (.iadd, 1) := by decide +kernel
theorem dX5_tail_28 : decode cX5_tail 28 = .ok (.invokevirtual 55, 3) := by decide +kernel
theorem dX5_tail_31 : decode cX5_tail 31 = .ok (.if_icmp .ne 9, 3) := by decide +kernel
theorem dX5_tail_34 : decode cX5_tail 34 = .ok (.iinc 2 (-1), 3) := by decide +kernel
theorem dX5_tail_37 : decode cX5_tail 37 = .ok (.goto (-26), 3) := by decide +kernel
theorem dX5_tail_40 : decode cX5_tail 40 = .ok (.iload_n 2, 1) := by decide +kernel
theorem dX5_tail_41 : decode cX5_tail 41 = .ok (.ireturn, 1) := by decide +kernel
theorem dX6_init_0 : decode cX6_init 0 = .ok (.aload_n 0, 1) := by decide +kernel
theorem dX6_init_1 : decode cX6_init 1 = .ok (.invokespecial 3, 3) := by decide +kernel
theorem dX6_init_4 : decode cX6_init 4 = .ok (.aload_n 0, 1) := by decide +kernel
theorem dX6_init_5 : decode cX6_init 5 = .ok (.iload_n 1, 1) := by decide +kernel
theorem dX6_init_6 : decode cX6_init 6 = .ok (.iconst 0, 1) := by decide +kernel
theorem dX6_init_7 : decode cX6_init 7 = .ok (.invokestatic 9, 3) := by decide +kernel
theorem dX6_init_10 : decode cX6_init 10 = .ok (.newarray .int, 2) := by decide +kernel
theorem dX6_init_12 : decode cX6_init 12 = .ok (.putfield 15, 3) := by decide +kernel
theorem dX6_init_15 : decode cX6_init 15 = .ok (.return_, 1) := by decide +kernel
theorem dX6_size_0 : decode cX6_size 0 = .ok (.aload_n 0, 1) := by decide +kernel
theorem dX6_size_1 : decode cX6_size 1 = .ok (.getfield 21, 3) := by decide +kernel
theorem dX6_size_4 : decode cX6_size 4 = .ok (.ireturn, 1) := by decide +kernel
theorem dX6_get_0 : decode cX6_get 0 = .ok (.iload_n 1, 1) := by decide +kernel
theorem dX6_get_1 : decode cX6_get 1 = .ok (.ifCond .lt 29, 3) := by decide +kernel
theorem dX6_get_4 : decode cX6_get 4 = .ok (.iload_n 1, 1) := by decide +kernel
theorem dX6_get_5 : decode cX6_get 5 = .ok (.aload_n 0, 1) := by decide +kernel
theorem dX6_get_6 : decode cX6_get 6 = .ok (.getfield 21, 3) := by decide +kernel
theorem dX6_get_9 : decode cX6_get 9 = .ok (.if_icmp .ge 21, 3) := by decide +kernel
theorem dX6_get_12 : decode cX6_get 12 = .ok (.iload_n 1, 1) := by decide +kernel
theorem dX6_get_13 : decode cX6_get 13 = .ok (.aload_n 0, 1) := by decide +kernel
theorem dX6_get_14 : decode cX6_get 14 = .ok (.getfield 15, 3) := by decide +kernel
theorem dX6_get_17 : decode cX6_get 17 = .ok (.arraylength, 1) := by decide +kernel
theorem dX6_get_18 : decode cX6_get 18 = .ok (.if_icmp .ge 12, 3) := by decide +kernel
theorem dX6_get_21 : decode cX6_get 21 = .ok (.aload_n 0, 1) := by decide +kernel
theorem dX6_get_22 : decode cX6_get 22 = .ok (.getfield 15, 3) := by decide +kernel
theorem dX6_get_25 : decode cX6_get 25 = .ok (.iload_n 1, 1) := by decide +kernel
theorem dX6_get_26 : decode cX6_get 26 = .ok (.iaload, 1) := by decide +kernel
theorem dX6_get_27 : decode cX6_get 27 = .ok (.goto 5, 3) := by decide +kernel
theorem dX6_get_30 : decode cX6_get 30 = .ok (.bipush (-4), 2) := by decide +kernel
theorem dX6_get_32 : decode cX6_get 32 = .ok (.ireturn, 1) := by decide +kernel
theorem dX6_add_0 : decode cX6_add 0 = .ok (.aload_n 0, 1) := by decide +kernel
theorem dX6_add_1 : decode cX6_add 1 = .ok (.getfield 21, 3) := by decide +kernel
theorem dX6_add_4 : decode cX6_add 4 = .ok (.ifCond .lt 15, 3) := by decide +kernel
theorem dX6_add_7 : decode cX6_add 7 = .ok (.aload_n 0, 1) := by decide +kernel
theorem dX6_add_8 : decode cX6_add 8 = .ok (.getfield 21, 3) := by decide +kernel
theorem dX6_add_11 : decode cX6_add 11 = .ok (.aload_n 0, 1) := by decide +kernel
theorem dX6_add_12 : decode cX6_add 12 = .ok (.getfield 15, 3) := by decide +kernel
theorem dX6_add_15 : decode cX6_add 15 = .ok (.arraylength, 1) := by decide +kernel
theorem dX6_add_16 : decode cX6_add 16 = .ok (.if_icmp .lt 5, 3) := by decide +kernel
theorem dX6_add_19 : decode cX6_add 19 = .ok (.iconst 0, 1) := by decide +kernel
theorem dX6_add_20 : decode cX6_add 20 = .ok (.ireturn, 1) := by decide +kernel
theorem dX6_add_21 : decode cX6_add 21 = .ok (.aload_n 0, 1) := by decide +kernel
theorem dX6_add_22 : decode cX6_add 22 = .ok (.getfield 15, 3) := by decide +kernel
theorem dX6_add_25 : decode cX6_add 25 = .ok (.aload_n 0, 1) := by decide +kernel
theorem dX6_add_26 : decode cX6_add 26 = .ok (.getfield 21, 3) := by decide +kernel
theorem dX6_add_29 : decode cX6_add 29 = .ok (.iload_n 1, 1) := by decide +kernel
theorem dX6_add_30 : decode cX6_add 30 = .ok (.iastore, 1) := by decide +kernel
theorem dX6_add_31 : decode cX6_add 31 = .ok (.aload_n 0, 1) := by decide +kernel
theorem dX6_add_32 : decode cX6_add 32 = .ok (.dup, 1) := by decide +kernel
theorem dX6_add_33 : decode cX6_add 33 = .ok (.getfield 21, 3) := by decide +kernel
theorem dX6_add_36 : decode cX6_add 36 = .ok (.iconst 1, 1) := by decide +kernel
theorem dX6_add_37 : decode cX6_add 37 = .ok (.iadd, 1) := by decide +kernel
theorem dX6_add_38 : decode cX6_add 38 = .ok (.putfield 21, 3) := by decide +kernel
theorem dX6_add_41 : decode cX6_add 41 = .ok (.iconst 1, 1) := by decide +kernel
theorem dX6_add_42 : decode cX6_add 42 = .ok (.ireturn, 1) := by decide +kernel
theorem dX6_clear_0 : decode cX6_clear 0 = .ok (.aload_n 0, 1) := by decide +kernel
theorem dX6_clear_1 : decode cX6_clear 1 = .ok (.getfield 21, 3) := by decide +kernel
theorem dX6_clear_4 : decode cX6_clear 4 = .ok (.istore_n 1, 1) := by decide +kernel
theorem dX6_clear_5 : decode cX6_clear 5 = .ok (.aload_n 0, 1) := by decide +kernel
theorem dX6_clear_6 : decode cX6_clear 6 = .ok (.iconst 0, 1) := by decide +kernel
theorem dX6_clear_7 : decode cX6_clear 7 = .ok (.putfield 21, 3) := by decide +kernel
theorem dX6_clear_10 : decode cX6_clear 10 = .ok (.iload_n 1, 1) := by decide +kernel
theorem dX6_clear_11 : decode cX6_clear 11 = .ok (.ireturn, 1) := by decide +kernel
set_option maxRecDepth 20000 in
theorem ggX6_copy_X6_get : GoodIn wsX6_copy wsX6_get := goodIn_r _ [6, 1, 7, 12, 13] (by decide +kernel) (by decide +kernel)
set_option maxRecDepth 20000 in
theorem gX6_copy_X6_get : GoodIn wsX6_copy (wsV RX6 25 RX6 yX6_get wsX6_get) := goodIn_app (goodIn_of _ (by decide +kernel)) ggX6_copy_X6_get
set_option maxRecDepth 20000 in
theorem ggX6_copy_X6_add : GoodIn wsX6_copy wsX6_add := goodIn_r _ [11, 1, 7, 12, 13] (by decide +kernel) (by decide +kernel)
set_option maxRecDepth 20000 in
theorem gX6_copy_X6_add : GoodIn wsX6_copy (wsV RX6 29 RX6 yX6_add wsX6_add) := goodIn_app (goodIn_of _ (by decide +kernel)) ggX6_copy_X6_add
theorem dX6_copy_0 : decode cX6_copy 0 = .ok (.aload_n 0, 1) := by decide +kernel
theorem dX6_copy_1 : decode cX6_copy 1 = .ok (.iconst 0, 1) := by decide +kernel
theorem dX6_copy_2 : decode cX6_copy 2 = .ok (.putfield 21, 3) := by decide +kernel
theorem dX6_copy_5 : decode cX6_copy 5 = .ok (.iconst 0, 1) := by decide +kernel
theorem dX6_copy_6 : decode cX6_copy 6 = .ok (.istore_n 2, 1) := by decide +kernel
theorem dX6_copy_7 : decode cX6_copy 7 = .ok (.iload_n 2, 1) := by decide +kernel
theorem dX6_copy_8 : decode cX6_copy 8 = .ok (.aload_n 1, 1) := by decide +kernel
theorem dX6_copy_9 : decode cX6_copy 9 = .ok (.getfield 21, 3) := by decide +kernel
theorem dX6_copy_12 : decode cX6_copy 12 = .ok (.if_icmp .ge 19, 3) := by decide +kernel
theorem dX6_copy_15 : decode cX6_copy 15 = .ok (.aload_n 0, 1) := by decide +kernel
theorem dX6_copy_16 : decode cX6_copy 16 = .ok (.aload_n 1, 1) := by decide +kernel
theorem dX6_copy_17 : decode cX6_copy 17 = .ok (.iload_n 2, 1) := by decide +kernel
theorem dX6_copy_18 : decode cX6_copy 18 = .ok (.invokevirtual 25, 3) := by decide +kernel
theorem dX6_copy_21 : decode cX6_copy 21 = .ok (.invokevirtual 29, 3) := by decide +kernel
theorem dX6_copy_24 : decode cX6_copy 24 = .ok (.pop, 1) := by decide +kernel
theorem dX6_copy_25 : decode cX6_copy 25 = .ok (.iinc 2 1, 3) := by decide +kernel
theorem dX6_copy_28 : decode cX6_copy 28 = .ok (.goto (-21), 3) := by decide +kernel
theorem dX6_copy_31 : decode cX6_copy 31 = .ok (.return_, 1) := by decide +kernel
set_option maxRecDepth 20000 in
theorem ggX6_same_X6_get : GoodIn wsX6_same wsX6_get := goodIn_r _ [6, 1, 7, 8, 9] (by decide +kernel) (by decide +kernel)
set_option maxRecDepth 20000 in
theorem gX6_same_X6_get : GoodIn wsX6_same (wsV RX6 25 RX6 yX6_get wsX6_get) := goodIn_app (goodIn_of _ (by decide +kernel)) ggX6_same_X6_get
theorem dX6_same_0 : decode cX6_same 0 = .ok (.aload_n 0, 1) := by decide +kernel
theorem dX6_same_1 : decode cX6_same 1 = .ok (.getfield 21, 3) := by decide +kernel
theorem dX6_same_4 : decode cX6_same 4 = .ok (.aload_n 1, 1) := by decide +kernel
theorem dX6_same_5 : decode cX6_same 5 = .ok (.getfield 21, 3) := by decide +kernel
theorem dX6_same_8 : decode cX6_same 8 = .ok (.if_icmp .eq 5, 3) := by decide +kernel
theorem dX6_same_11 : decode cX6_same 11 = .ok (.iconst 0, 1) := by decide +kernel
theorem dX6_same_12 : decode cX6_same 12 = .ok (.ireturn, 1) := by decide +kernel
theorem dX6_same_13 : decode cX6_same 13 = .ok (.iconst 0, 1) := by decide +kernel
theorem dX6_same_14 : decode cX6_same 14 = .ok (.istore_n 2, 1) := by decide +kernel
theorem dX6_same_15 : decode cX6_same 15 = .ok (.iload_n 2, 1) := by decide +kernel
theorem dX6_same_16 : decode cX6_same 16 = .ok (.aload_n 0, 1) := by decide +kernel
theorem dX6_same_17 : decode cX6_same 17 = .ok (.getfield 21, 3) := by decide +kernel
theorem dX6_same_20 : decode cX6_same 20 = .ok (.if_icmp .ge 24, 3) := by decide +kernel
theorem dX6_same_23 : decode cX6_same 23 = .ok (.aload_n 0, 1) := by decide +kernel
theorem dX6_same_24 : decode cX6_same 24 = .ok (.iload_n 2, 1) := by decide +kernel
theorem dX6_same_25 : decode cX6_same 25 = .ok (.invokevirtual 25, 3) := by decide +kernel
theorem dX6_same_28 : decode cX6_same 28 = .ok (.aload_n 1, 1) := by decide +kernel
theorem dX6_same_29 : decode cX6_same 29 = .ok (.iload_n 2, 1) := by decide +kernel
theorem dX6_same_30 : decode cX6_same 30 = .ok (.invokevirtual 25, 3) := by decide +kernel
theorem dX6_same_33 : decode cX6_same 33 = .ok (.if_icmp .eq 5, 3) := by decide +kernel
theorem dX6_same_36 : decode cX6_same 36 = .ok (.iconst 0, 1) := by decide +kernel
theorem dX6_same_37 : decode cX6_same 37 = .ok (.ireturn, 1) := by decide +kernel
theorem dX6_same_38 : decode cX6_same 38 = .ok (.iinc 2 1, 3) := by decide +kernel
theorem dX6_same_41 : decode cX6_same 41 = .ok (.goto (-26), 3) := by decide +kernel
theorem dX6_same_44 : decode cX6_same 44 = .ok (.iconst 1, 1) := by decide +kernel
theorem dX6_same_45 : decode cX6_same 45 = .ok (.ireturn, 1) := by decide +kernel
set_option maxRecDepth 20000 in
theorem ggX7_allows_X6_size : GoodIn wsX7_allows wsX6_size := goodIn_r _ [10, 11, 17, 18] (by decide +kernel) (by decide +kernel)
set_option maxRecDepth 20000 in
theorem gX7_allows_X6_size : GoodIn wsX7_allows (wsV RX7 60 RX6 yX6_size wsX6_size) := goodIn_app (goodIn_of _ (by decide +kernel)) ggX7_allows_X6_size
set_option maxRecDepth 20000 in
theorem ggX7_allows_X6_get : GoodIn wsX7_allows wsX6_get := goodIn_r _ [15, 11, 16, 17, 18] (by decide +kernel) (by decide +kernel)
set_option maxRecDepth 20000 in
theorem gX7_allows_X6_get : GoodIn wsX7_allows (wsV RX7 66 RX6 yX6_get wsX6_get) := goodIn_app (goodIn_of _ (by decide +kernel)) ggX7_allows_X6_get
theorem dX7_allows_0 : decode cX7_allows 0 = .ok (.aload_n 1, 1) := by decide +kernel
theorem dX7_allows_1 : decode cX7_allows 1 = .ok (.invokevirtual 60, 3) := by decide +kernel
theorem dX7_allows_4 : decode cX7_allows 4 = .ok (.aload_n 0, 1) := by decide +kernel
theorem dX7_allows_5 : decode cX7_allows 5 = .ok (.getfield 48, 3) := by decide +kernel
theorem dX7_allows_8 : decode cX7_allows 8 = .ok (.if_icmp .lt 14, 3) := by decide +kernel
theorem dX7_allows_11 : decode cX7_allows 11 = .ok (.aload_n 1, 1) := by decide +kernel
theorem dX7_allows_12 : decode cX7_allows 12 = .ok (.invokevirtual 60, 3) := by decide +kernel
theorem dX7_allows_15 : decode cX7_allows 15 = .ok (.aload_n 0, 1) := by decide +kernel
theorem dX7_allows_16 : decode cX7_allows 16 = .ok (.getfield 51, 3) := by decide +kernel
theorem dX7_allows_19 : decode cX7_allows 19 = .ok (.if_icmp .le 5, 3) := by decide +kernel
theorem dX7_allows_22 : decode cX7_allows 22 = .ok (.iconst 0, 1) := by decide +kernel
theorem dX7_allows_23 : decode cX7_allows 23 = .ok (.ireturn, 1) := by decide +kernel
theorem dX7_allows_24 : decode cX7_allows 24 = .ok (.iconst 0, 1) := by decide +kernel
theorem dX7_allows_25 : decode cX7_allows 25 = .ok (.istore_n 2, 1) := by decide +kernel
theorem dX7_allows_26 : decode cX7_allows 26 = .ok (.iload_n 2, 1) := by decide +kernel
theorem dX7_allows_27 : decode cX7_allows 27 = .ok (.aload_n 1, 1) := by decide +kernel
theorem dX7_allows_28 : decode cX7_allows 28 = .ok (.invokevirtual 60, 3) := by decide +kernel
theorem dX7_allows_31 : decode cX7_allows 31 = .ok (.if_icmp .ge 35, 3) := by decide +kernel
theorem dX7_allows_34 : decode cX7_allows 34 = .ok (.aload_n 1, 1) := by decide +kernel
theorem dX7_allows_35 : decode cX7_allows 35 = .ok (.iload_n 2, 1) := by decide +kernel
theorem dX7_allows_36 : decode cX7_allows 36 = .ok (.invokevirtual 66, 3) := by decide +kernel
theorem dX7_allows_39 : decode cX7_allows 39 = .ok (.aload_n 0, 1) := by decide +kernel
theorem dX7_allows_40 : decode cX7_allows 40 = .ok (.getfield 54, 3) := by decide +kernel
theorem dX7_allows_43 : decode cX7_allows 43 = .ok (.if_icmp .lt 15, 3) := by decide +kernel
theorem dX7_allows_46 : decode cX7_allows 46 = .ok (.aload_n 1, 1) := by decide +kernel
theorem dX7_allows_47 : decode cX7_allows 47 = .ok (.iload_n 2, 1) := by decide +kernel
theorem dX7_allows_48 : decode cX7_allows 48 = .ok (.invokevirtual 66, 3) := by decide +kernel
theorem dX7_allows_51 : decode cX7_allows 51 = .ok (.aload_n 0, 1) := by decide +kernel
theorem dX7_allows_52 : decode cX7_allows 52 = .ok (.getfield 57, 3) := by decide +kernel
theorem dX7_allows_55 : decode cX7_allows 55 = .ok (.if_icmp .le 5, 3) := by decide +kernel
theorem dX7_allows_58 : decode cX7_allows 58 = .ok (.iconst 0, 1) := by decide +kernel
theorem dX7_allows_59 : decode cX7_allows 59 = .ok (.ireturn, 1) := by decide +kernel
theorem dX7_allows_60 : decode cX7_allows 60 = .ok (.iinc 2 1, 3) := by decide +kernel
theorem dX7_allows_63 : decode cX7_allows 63 = .ok (.goto (-37), 3) := by decide +kernel
theorem dX7_allows_66 : decode cX7_allows 66 = .ok (.aload_n 0, 1) := by decide +kernel
theorem dX7_allows_67 : decode cX7_allows 67 = .ok (.getstatic 16, 3) := by decide +kernel
theorem dX7_allows_70 : decode cX7_allows 70 = .ok (.if_acmp .ne 16, 3) := by decide +kernel
theorem dX7_allows_73 : decode cX7_allows 73 = .ok (.aload_n 1, 1) := by decide +kernel
theorem dX7_allows_74 : decode cX7_allows 74 = .ok (.iconst 1, 1) := by decide +kernel
theorem dX7_allows_75 : decode cX7_allows 75 = .ok (.invokevirtual 66, 3) := by decide +kernel
theorem dX7_allows_78 : decode cX7_allows 78 = .ok (.aload_n 1, 1) := by decide +kernel
theorem dX7_allows_79 : decode cX7_allows 79 = .ok (.iconst 0, 1) := by decide +kernel
theorem dX7_allows_80 : decode cX7_allows 80 = .ok (.invokevirtual 66, 3) := by decide +kernel
theorem dX7_allows_83 : decode cX7_allows 83 = .ok (.if_icmp .le 7, 3) := by decide +kernel
theorem dX7_allows_86 : decode cX7_allows 86 = .ok (.iconst 1, 1) := by decide +kernel
theorem dX7_allows_87 : decode cX7_allows 87 = .ok (.goto 4, 3) := by decide +kernel
theorem dX7_allows_90 : decode cX7_allows 90 = .ok (.iconst 0, 1) := by decide +kernel
theorem dX7_allows_91 : decode cX7_allows 91 = .ok (.ireturn, 1) := by decide +kernel
set_option maxRecDepth 20000 in
theorem ggX8_init_X6_init : GoodIn wsX8_init wsX6_init := goodIn_r _ [11, 12, 2, 3, 13, 14, 15, 16, 17, 18, 19, 20] (by decide +kernel) (by decide +kernel)
set_option maxRecDepth 20000 in
theorem gX8_init_X6_init : GoodIn wsX8_init (wsX6_init) := ggX8_init_X6_init
theorem dX8_init_0 : decode cX8_init 0 = .ok (.aload_n 0, 1) := by decide +kernel
theorem dX8_init_1 : decode cX8_init 1 = .ok (.invokespecial 3, 3) := by decide +kernel
theorem dX8_init_4 : decode cX8_init 4 = .ok (.aload_n 0, 1) := by decide +kernel
theorem dX8_init_5 : decode cX8_init 5 = .ok (.new 9, 3) := by decide +kernel
theorem dX8_init_8 : decode cX8_init 8 = .ok (.dup, 1) := by decide +kernel
theorem dX8_init_9 : decode cX8_init 9 = .ok (.sipush 5000, 3) := by decide +kernel
theorem dX8_init_12 : decode cX8_init 12 = .ok (.invokespecial 11, 3) := by decide +kernel
theorem dX8_init_15 : decode cX8_init 15 = .ok (.putfield 14, 3) := by decide +kernel
theorem dX8_init_18 : decode cX8_init 18 = .ok (.aload_n 0, 1) := by decide +kernel
theorem dX8_init_19 : decode cX8_init 19 = .ok (.new 9, 3) := by decide +kernel
theorem dX8_init_22 : decode cX8_init 22 = .ok (.dup, 1) := by decide +kernel
theorem dX8_init_23 : decode cX8_init 23 = .ok (.sipush 5000, 3) := by decide +kernel
theorem dX8_init_26 : decode cX8_init 26 = .ok (.invokespecial 11, 3) := by decide +kernel
theorem dX8_init_29 : decode cX8_init 29 = .ok (.putfield 20, 3) := by decide +kernel
theorem dX8_init_32 : decode cX8_init 32 = .ok (.return_, 1) := by decide +kernel
set_option maxRecDepth 20000 in
theorem ggX8_speak_X6_copy : GoodIn wsX8_speak wsX6_copy := goodIn_r _ [7, 8, 9, 10, 11, 6, 12, 13, 14, 15, 16, 17, 37, 38] (by decide +kernel) (by decide +kernel)
set_option maxRecDepth 20000 in
theorem gX8_speak_X6_copy : GoodIn wsX8_speak (wsV RX8 23 RX6 yX6_copy wsX6_copy) := goodIn_app (goodIn_of _ (by decide +kernel)) ggX8_speak_X6_copy
set_option maxRecDepth 20000 in
theorem ggX8_speak_X8_tally : GoodIn wsX8_speak wsX8_tally := goodIn_r _ [21, 22, 23, 24, 6, 25, 8, 26, 27, 28, 29, 30, 10, 11, 12, 13, 31, 15, 16, 17, 37, 38] (by decide +kernel) (by decide +kernel)
set_option maxRecDepth 20000 in
theorem gX8_speak_X8_tally : GoodIn wsX8_speak (va_wsS RX8 27 yX8_tally wsX8_tally) := goodIn_app (goodIn_of _ (by decide +kernel)) ggX8_speak_X8_tally
set_option maxRecDepth 20000 in
theorem ggX8_speak_X8_say : GoodIn wsX8_speak wsX8_say := goodIn_r _ [34, 22, 23, 24, 6, 25, 8, 26, 27, 28, 29, 30, 10, 11, 12, 13, 31, 15, 16, 17, 37, 38] (by decide +kernel) (by decide +kernel)
set_option maxRecDepth 20000 in
theorem gX8_speak_X8_say : GoodIn wsX8_speak (va_wsS RX8 31 yX8_say wsX8_say) := goodIn_app (goodIn_of _ (by decide +kernel)) ggX8_speak_X8_say
theorem dX8_speak_0 : decode cX8_speak 0 = .ok (.aload_n 0, 1) := by decide +kernel
theorem dX8_speak_1 : decode cX8_speak 1 = .ok (.getfield 14, 3) := by decide +kernel
theorem dX8_speak_4 : decode cX8_speak 4 = .ok (.astore 4, 2) := by decide +kernel
theorem dX8_speak_6 : decode cX8_speak 6 = .ok (.aload_n 0, 1) := by decide +kernel
theorem dX8_speak_7 : decode cX8_speak 7 = .ok (.getfield 20, 3) := by decide +kernel
theorem dX8_speak_10 : decode cX8_speak 10 = .ok (.astore 5, 2) := by decide +kernel
theorem dX8_speak_12 : decode cX8_speak 12 = .ok (.aload 4, 2) := by decide +kernel
theorem dX8_speak_14 : decode cX8_speak 14 = .ok (.aload_n 1, 1) := by decide +kernel
theorem dX8_speak_15 : decode cX8_speak 15 = .ok (.invokevirtual 23, 3) := by decide +kernel
theorem dX8_speak_18 : decode cX8_speak 18 = .ok (.iconst 0, 1) := by decide +kernel
theorem dX8_speak_19 : decode cX8_speak 19 = .ok (.istore 6, 2) := by decide +kernel
theorem dX8_speak_21 : decode cX8_speak 21 = .ok (.iload 6, 2) := by decide +kernel
theorem dX8_speak_23 : decode cX8_speak 23 = .ok (.iload_n 3, 1) := by decide +kernel
theorem dX8_speak_24 : decode cX8_speak 24 = .ok (.if_icmp .ge 50, 3) := by decide +kernel
theorem dX8_speak_27 : decode cX8_speak 27 = .ok (.iload_n 2, 1) := by decide +kernel
theorem dX8_speak_28 : decode cX8_speak 28 = .ok (.ifCond .eq 16, 3) := by decide +kernel
theorem dX8_speak_31 : decode cX8_speak 31 = .ok (.aload 4, 2) := by decide +kernel
theorem dX8_speak_33 : decode cX8_speak 33 = .ok (.aload 5, 2) := by decide +kernel
theorem dX8_speak_35 : decode cX8_speak 35 = .ok (.invokestatic 27, 3) := by decide +kernel
theorem dX8_speak_38 : decode cX8_speak 38 = .ok (.ifCond .eq 16, 3) := by decide +kernel
theorem dX8_speak_41 : decode cX8_speak 41 = .ok (.goto 15, 3) := by decide +kernel
theorem dX8_speak_44 : decode cX8_speak 44 = .ok (.aload 4, 2) := by decide +kernel
theorem dX8_speak_46 : decode cX8_speak 46 = .ok (.aload 5, 2) := by decide +kernel
theorem dX8_speak_48 : decode cX8_speak 48 = .ok (.invokestatic 31, 3) := by decide +kernel
theorem dX8_speak_51 : decode cX8_speak 51 = .ok (.ifCond .ne 5, 3) := by decide +kernel
theorem dX8_speak_54 : decode cX8_speak 54 = .ok (.aconst_null, 1) := by decide +kernel
theorem dX8_speak_55 : decode cX8_speak 55 = .ok (.areturn, 1) := by decide +kernel
theorem dX8_speak_56 : decode cX8_speak 56 = .ok (.aload 5, 2) := by decide +kernel
theorem dX8_speak_58 : decode cX8_speak 58 = .ok (.astore 7, 2) := by decide +kernel
theorem dX8_speak_60 : decode cX8_speak 60 = .ok (.aload 4, 2) := by decide +kernel
theorem dX8_speak_62 : decode cX8_speak 62 = .ok (.astore 5, 2) := by decide +kernel
theorem dX8_speak_64 : decode cX8_speak 64 = .ok (.aload 7, 2) := by decide +kernel
theorem dX8_speak_66 : decode cX8_speak 66 = .ok (.astore 4, 2) := by decide +kernel
theorem dX8_speak_68 : decode cX8_speak 68 = .ok (.iinc 6 1, 3) := by decide +kernel
theorem dX8_speak_71 : decode cX8_speak 71 = .ok (.goto (-50), 3) := by decide +kernel
theorem dX8_speak_74 : decode cX8_speak 74 = .ok (.aload 4, 2) := by decide +kernel
theorem dX8_speak_76 : decode cX8_speak 76 = .ok (.areturn, 1) := by decide +kernel
set_option maxRecDepth 20000 in
theorem ggX8_takeBack_X8_unsay : GoodIn wsX8_takeBack wsX8_unsay := goodIn_r _ [5, 6, 7, 8, 9, 10, 11, 12, 13, 14, 15, 16, 17, 18, 19, 20, 21, 22, 23, 24, 27, 28] (by decide +kernel) (by decide +kernel)
set_option maxRecDepth 20000 in
theorem gX8_takeBack_X8_unsay : GoodIn wsX8_takeBack (va_wsS RX8 34 yX8_unsay wsX8_unsay) := goodIn_app (goodIn_of _ (by decide +kernel)) ggX8_takeBack_X8_unsay
theorem dX8_takeBack_0 : decode cX8_takeBack 0 = .ok (.aload_n 1, 1) := by decide +kernel
theorem dX8_takeBack_1 : decode cX8_takeBack 1 = .ok (.aload_n 0, 1) := by decide +kernel
theorem dX8_takeBack_2 : decode cX8_takeBack 2 = .ok (.getfield 14, 3) := by decide +kernel
theorem dX8_takeBack_5 : decode cX8_takeBack 5 = .ok (.invokestatic 34, 3) := by decide +kernel
theorem dX8_takeBack_8 : decode cX8_takeBack 8 = .ok (.ifCond .eq 10, 3) := by decide +kernel
theorem dX8_takeBack_11 : decode cX8_takeBack 11 = .ok (.aload_n 0, 1) := by decide +kernel
theorem dX8_takeBack_12 : decode cX8_takeBack 12 = .ok (.getfield 14, 3) := by decide +kernel
theorem dX8_takeBack_15 : decode cX8_takeBack 15 = .ok (.goto 4, 3) := by decide +kernel
theorem dX8_takeBack_18 : decode cX8_takeBack 18 = .ok (.aconst_null, 1) := by decide +kernel
theorem dX8_takeBack_19 : decode cX8_takeBack 19 = .ok (.areturn, 1) := by decide +kernel
set_option maxRecDepth 20000 in
theorem ggX8_mostBacks_X6_copy : GoodIn wsX8_mostBacks wsX6_copy := goodIn_r _ [7, 8, 9, 10, 11, 6, 12, 13, 14, 15, 16, 17, 34, 35] (by decide +kernel) (by decide +kernel)
set_option maxRecDepth 20000 in
theorem gX8_mostBacks_X6_copy : GoodIn wsX8_mostBacks (wsV RX8 23 RX6 yX6_copy wsX6_copy) := goodIn_app (goodIn_of _ (by decide +kernel)) ggX8_mostBacks_X6_copy
set_option maxRecDepth 20000 in
theorem ggX8_mostBacks_X8_unsay : GoodIn wsX8_mostBacks wsX8_unsay := goodIn_r _ [21, 22, 23, 24, 6, 25, 8, 26, 27, 28, 29, 30, 10, 11, 12, 13, 31, 15, 16, 17, 34, 35] (by decide +kernel) (by decide +kernel)
set_option maxRecDepth 20000 in
theorem gX8_mostBacks_X8_unsay : GoodIn wsX8_mostBacks (va_wsS RX8 34 yX8_unsay wsX8_unsay) := goodIn_app (goodIn_of _ (by decide +kernel)) ggX8_mostBacks_X8_unsay
theorem dX8_mostBacks_0 : decode cX8_mostBacks 0 = .ok (.aload_n 0, 1) := by decide +kernel
theorem dX8_mostBacks_1 : decode cX8_mostBacks 1 = .ok (.getfield 14, 3) := by decide +kernel
theorem dX8_mostBacks_4 : decode cX8_mostBacks 4 = .ok (.astore_n 2, 1) := by decide +kernel
theorem dX8_mostBacks_5 : decode cX8_mostBacks 5 = .ok (.aload_n 0, 1) := by decide +kernel
theorem dX8_mostBacks_6 : decode cX8_mostBacks 6 = .ok (.getfield 20, 3) := by decide +kernel
theorem dX8_mostBacks_9 : decode cX8_mostBacks 9 = .ok (.astore_n 3, 1) := by decide +kernel
theorem dX8_mostBacks_10 : decode cX8_mostBacks 10 = .ok (.aload_n 2, 1) := by decide +kernel
theorem dX8_mostBacks_11 : decode cX8_mostBacks 11 = .ok (.aload_n 1, 1) := by decide +kernel
theorem dX8_mostBacks_12 : decode cX8_mostBacks 12 = .ok (.invokevirtual 23, 3) := by decide +kernel
theorem dX8_mostBacks_15 : decode cX8_mostBacks 15 = .ok (.iconst 0, 1) := by decide +kernel
theorem dX8_mostBacks_16 : decode cX8_mostBacks 16 = .ok (.istore 4, 2) := by decide +kernel
theorem dX8_mostBacks_18 : decode cX8_mostBacks 18 = .ok (.iload 4, 2) := by decide +kernel
theorem dX8_mostBacks_20 : decode cX8_mostBacks 20 = .ok (.bipush 20, 2) := by decide +kernel
theorem dX8_mostBacks_22 : decode cX8_mostBacks 22 = .ok (.if_icmp .ge 25, 3) := by decide +kernel
theorem dX8_mostBacks_25 : decode cX8_mostBacks 25 = .ok (.aload_n 2, 1) := by decide +kernel
theorem dX8_mostBacks_26 : decode cX8_mostBacks 26 = .ok (.aload_n 3, 1) := by decide +kernel
theorem dX8_mostBacks_27 : decode cX8_mostBacks 27 = .ok (.invokestatic 34, 3) := by decide +kernel
theorem dX8_mostBacks_30 : decode cX8_mostBacks 30 = .ok (.ifCond .eq 17, 3) := by decide +kernel
theorem dX8_mostBacks_33 : decode cX8_mostBacks 33 = .ok (.aload_n 3, 1) := by decide +kernel
theorem dX8_mostBacks_34 : decode cX8_mostBacks 34 = .ok (.astore 5, 2) := by decide +kernel
theorem dX8_mostBacks_36 : decode cX8_mostBacks 36 = .ok (.aload_n 2, 1) := by decide +kernel
theorem dX8_mostBacks_37 : decode cX8_mostBacks 37 = .ok (.astore_n 3, 1) := by decide +kernel
theorem dX8_mostBacks_38 : decode cX8_mostBacks 38 = .ok (.aload 5, 2) := by decide +kernel
theorem dX8_mostBacks_40 : decode cX8_mostBacks 40 = .ok (.astore_n 2, 1) := by decide +kernel
theorem dX8_mostBacks_41 : decode cX8_mostBacks 41 = .ok (.iinc 4 1, 3) := by decide +kernel
theorem dX8_mostBacks_44 : decode cX8_mostBacks 44 = .ok (.goto (-26), 3) := by decide +kernel
theorem dX8_mostBacks_47 : decode cX8_mostBacks 47 = .ok (.iload 4, 2) := by decide +kernel
theorem dX8_mostBacks_49 : decode cX8_mostBacks 49 = .ok (.ireturn, 1) := by decide +kernel
set_option maxRecDepth 20000 in
theorem ggX8_say_X6_clear : GoodIn wsX8_say wsX6_clear := goodIn_r _ [5, 6, 20, 21] (by decide +kernel) (by decide +kernel)
set_option maxRecDepth 20000 in
theorem gX8_say_X6_clear : GoodIn wsX8_say (wsV RX8 37 RX6 yX6_clear wsX6_clear) := goodIn_app (goodIn_of _ (by decide +kernel)) ggX8_say_X6_clear
set_option maxRecDepth 20000 in
theorem ggX8_say_X6_size : GoodIn wsX8_say wsX6_size := goodIn_r _ [10, 6, 20, 21] (by decide +kernel) (by decide +kernel)
set_option maxRecDepth 20000 in
theorem gX8_say_X6_size : GoodIn wsX8_say (wsV RX8 41 RX6 yX6_size wsX6_size) := goodIn_app (goodIn_of _ (by decide +kernel)) ggX8_say_X6_size
set_option maxRecDepth 20000 in
theorem ggX8_say_X6_get : GoodIn wsX8_say wsX6_get := goodIn_r _ [14, 6, 15, 20, 21] (by decide +kernel) (by decide +kernel)
set_option maxRecDepth 20000 in
theorem gX8_say_X6_get : GoodIn wsX8_say (wsV RX8 44 RX6 yX6_get wsX6_get) := goodIn_app (goodIn_of _ (by decide +kernel)) ggX8_say_X6_get
set_option maxRecDepth 20000 in
theorem ggX8_say_X6_add : GoodIn wsX8_say wsX6_add := goodIn_r _ [19, 6, 15, 20, 21] (by decide +kernel) (by decide +kernel)
set_option maxRecDepth 20000 in
theorem gX8_say_X6_add : GoodIn wsX8_say (wsV RX8 48 RX6 yX6_add wsX6_add) := goodIn_app (goodIn_of _ (by decide +kernel)) ggX8_say_X6_add
theorem dX8_say_0 : decode cX8_say 0 = .ok (.aload_n 1, 1) := by decide +kernel
theorem dX8_say_1 : decode cX8_say 1 = .ok (.invokevirtual 37, 3) := by decide +kernel
theorem dX8_say_4 : decode cX8_say 4 = .ok (.pop, 1) := by decide +kernel
theorem dX8_say_5 : decode cX8_say 5 = .ok (.iconst 0, 1) := by decide +kernel
theorem dX8_say_6 : decode cX8_say 6 = .ok (.istore_n 2, 1) := by decide +kernel
theorem dX8_say_7 : decode cX8_say 7 = .ok (.iconst 0, 1) := by decide +kernel
theorem dX8_say_8 : decode cX8_say 8 = .ok (.istore_n 3, 1) := by decide +kernel
theorem dX8_say_9 : decode cX8_say 9 = .ok (.iload_n 3, 1) := by decide +kernel
theorem dX8_say_10 : decode cX8_say 10 = .ok (.aload_n 0, 1) := by decide +kernel
theorem dX8_say_11 : decode cX8_say 11 = .ok (.invokevirtual 41, 3) := by decide +kernel
theorem dX8_say_14 : decode cX8_say 14 = .ok (.if_icmp .ge 70, 3) := by decide +kernel
theorem dX8_say_17 : decode cX8_say 17 = .ok (.iinc 2 1, 3) := by decide +kernel
theorem dX8_say_20 : decode cX8_say 20 = .ok (.iload_n 3, 1) := by decide +kernel
theorem dX8_say_21 : decode cX8_say 21 = .ok (.iconst 1, 1) := by decide +kernel
theorem dX8_say_22 : decode cX8_say 22 = .ok (.iadd, 1) := by decide +kernel
theorem dX8_say_23 : decode cX8_say 23 = .ok (.aload_n 0, 1) := by decide +kernel
theorem dX8_say_24 : decode cX8_say 24 = .ok (.invokevirtual 41, 3) := by decide +kernel
theorem dX8_say_27 : decode cX8_say 27 = .ok (.if_icmp .ge 21, 3) := by decide +kernel
theorem dX8_say_30 : decode cX8_say 30 = .ok (.aload_n 0, 1) := by decide +kernel
theorem dX8_say_31 : decode cX8_say 31 = .ok (.iload_n 3, 1) := by decide +kernel
theorem dX8_say_32 : decode cX8_say 32 = .ok (.iconst 1, 1) := by decide +kernel
theorem dX8_say_33 : decode cX8_say 33 = .ok (.iadd, 1) := by decide +kernel
theorem dX8_say_34 : decode cX8_say 34 = .ok (.invokevirtual 44, 3) := by decide +kernel
theorem dX8_say_37 : decode cX8_say 37 = .ok (.aload_n 0, 1) := by decide +kernel
theorem dX8_say_38 : decode cX8_say 38 = .ok (.iload_n 3, 1) := by decide +kernel
theorem dX8_say_39 : decode cX8_say 39 = .ok (.invokevirtual 44, 3) := by decide +kernel
theorem dX8_say_42 : decode cX8_say 42 = .ok (.if_icmp .ne 6, 3) := by decide +kernel
theorem dX8_say_45 : decode cX8_say 45 = .ok (.goto 33, 3) := by decide +kernel
theorem dX8_say_48 : decode cX8_say 48 = .ok (.iload_n 2, 1) := by decide +kernel
theorem dX8_say_49 : decode cX8_say 49 = .ok (.bipush 9, 2) := by decide +kernel
theorem dX8_say_51 : decode cX8_say 51 = .ok (.if_icmp .gt 23, 3) := by decide +kernel
theorem dX8_say_54 : decode cX8_say 54 = .ok (.aload_n 1, 1) := by decide +kernel
theorem dX8_say_55 : decode cX8_say 55 = .ok (.iload_n 2, 1) := by decide +kernel
theorem dX8_say_56 : decode cX8_say 56 = .ok (.invokevirtual 48, 3) := by decide +kernel
theorem dX8_say_59 : decode cX8_say 59 = .ok (.ifCond .eq 15, 3) := by decide +kernel
theorem dX8_say_62 : decode cX8_say 62 = .ok (.aload_n 1, 1) := by decide +kernel
theorem dX8_say_63 : decode cX8_say 63 = .ok (.aload_n 0, 1) := by decide +kernel
theorem dX8_say_64 : decode cX8_say 64 = .ok (.iload_n 3, 1) := by decide +kernel
theorem dX8_say_65 : decode cX8_say 65 = .ok (.invokevirtual 44, 3) := by decide +kernel
theorem dX8_say_68 : decode cX8_say 68 = .ok (.invokevirtual 48, 3) := by decide +kernel
theorem dX8_say_71 : decode cX8_say 71 = .ok (.ifCond .ne 5, 3) := by decide +kernel
theorem dX8_say_74 : decode cX8_say 74 = .ok (.iconst 0, 1) := by decide +kernel
theorem dX8_say_75 : decode cX8_say 75 = .ok (.ireturn, 1) := by decide +kernel
theorem dX8_say_76 : decode cX8_say 76 = .ok (.iconst 0, 1) := by decide +kernel
theorem dX8_say_77 : decode cX8_say 77 = .ok (.istore_n 2, 1) := by decide +kernel
theorem dX8_say_78 : decode cX8_say 78 = .ok (.iinc 3 1, 3) := by decide +kernel
theorem dX8_say_81 : decode cX8_say 81 = .ok (.goto (-72), 3) := by decide +kernel
theorem dX8_say_84 : decode cX8_say 84 = .ok (.iconst 1, 1) := by decide +kernel
theorem dX8_say_85 : decode cX8_say 85 = .ok (.ireturn, 1) := by decide +kernel
set_option maxRecDepth 20000 in
theorem ggX8_tally_X6_clear : GoodIn wsX8_tally wsX6_clear := goodIn_r _ [5, 6, 20, 21] (by decide +kernel) (by decide +kernel)
set_option maxRecDepth 20000 in
theorem gX8_tally_X6_clear : GoodIn wsX8_tally (wsV RX8 37 RX6 yX6_clear wsX6_clear) := goodIn_app (goodIn_of _ (by decide +kernel)) ggX8_tally_X6_clear
set_option maxRecDepth 20000 in
theorem ggX8_tally_X6_size : GoodIn wsX8_tally wsX6_size := goodIn_r _ [10, 6, 20, 21] (by decide +kernel) (by decide +kernel)
set_option maxRecDepth 20000 in
theorem gX8_tally_X6_size : GoodIn wsX8_tally (wsV RX8 41 RX6 yX6_size wsX6_size) := goodIn_app (goodIn_of _ (by decide +kernel)) ggX8_tally_X6_size
set_option maxRecDepth 20000 in
theorem ggX8_tally_X6_get : GoodIn wsX8_tally wsX6_get := goodIn_r _ [14, 6, 15, 20, 21] (by decide +kernel) (by decide +kernel)
set_option maxRecDepth 20000 in
theorem gX8_tally_X6_get : GoodIn wsX8_tally (wsV RX8 44 RX6 yX6_get wsX6_get) := goodIn_app (goodIn_of _ (by decide +kernel)) ggX8_tally_X6_get
set_option maxRecDepth 20000 in
theorem ggX8_tally_X6_add : GoodIn wsX8_tally wsX6_add := goodIn_r _ [19, 6, 15, 20, 21] (by decide +kernel) (by decide +kernel)
set_option maxRecDepth 20000 in
theorem gX8_tally_X6_add : GoodIn wsX8_tally (wsV RX8 48 RX6 yX6_add wsX6_add) := goodIn_app (goodIn_of _ (by decide +kernel)) ggX8_tally_X6_add
theorem dX8_tally_0 : decode cX8_tally 0 = .ok (.aload_n 1, 1) := by decide +kernel
theorem dX8_tally_1 : decode cX8_tally 1 = .ok (.invokevirtual 37, 3) := by decide +kernel
theorem dX8_tally_4 : decode cX8_tally 4 = .ok (.pop, 1) := by decide +kernel
theorem dX8_tally_5 : decode cX8_tally 5 = .ok (.iconst 1, 1) := by decide +kernel
theorem dX8_tally_6 : decode cX8_tally 6 = .ok (.istore_n 2, 1) := by decide +kernel
theorem dX8_tally_7 : decode cX8_tally 7 = .ok (.iload_n 2, 1) := by decide +kernel
theorem dX8_tally_8 : decode cX8_tally 8 = .ok (.bipush 9, 2) := by decide +kernel
theorem dX8_tally_10 : decode cX8_tally 10 = .ok (.if_icmp .gt 70, 3) := by decide +kernel
theorem dX8_tally_13 : decode cX8_tally 13 = .ok (.iconst 0, 1) := by decide +kernel
theorem dX8_tally_14 : decode cX8_tally 14 = .ok (.istore_n 3, 1) := by decide +kernel
theorem dX8_tally_15 : decode cX8_tally 15 = .ok (.iconst 0, 1) := by decide +kernel
theorem dX8_tally_16 : decode cX8_tally 16 = .ok (.istore 4, 2) := by decide +kernel
theorem dX8_tally_18 : decode cX8_tally 18 = .ok (.iload 4, 2) := by decide +kernel
theorem dX8_tally_20 : decode cX8_tally 20 = .ok (.aload_n 0, 1) := by decide +kernel
theorem dX8_tally_21 : decode cX8_tally 21 = .ok (.invokevirtual 41, 3) := by decide +kernel
theorem dX8_tally_24 : decode cX8_tally 24 = .ok (.if_icmp .ge 22, 3) := by decide +kernel
theorem dX8_tally_27 : decode cX8_tally 27 = .ok (.aload_n 0, 1) := by decide +kernel
theorem dX8_tally_28 : decode cX8_tally 28 = .ok (.iload 4, 2) := by decide +kernel
theorem dX8_tally_30 : decode cX8_tally 30 = .ok (.invokevirtual 44, 3) := by decide +kernel
theorem dX8_tally_33 : decode cX8_tally 33 = .ok (.iload_n 2, 1) := by decide +kernel
theorem dX8_tally_34 : decode cX8_tally 34 = .ok (.if_icmp .ne 6, 3) := by decide +kernel
theorem dX8_tally_37 : decode cX8_tally 37 = .ok (.iinc 3 1, 3) := by decide +kernel
theorem dX8_tally_40 : decode cX8_tally 40 = .ok (.iinc 4 1, 3) := by decide +kernel
theorem dX8_tally_43 : decode cX8_tally 43 = .ok (.goto (-25), 3) := by decide +kernel
theorem dX8_tally_46 : decode cX8_tally 46 = .ok (.iload_n 3, 1) := by decide +kernel
theorem dX8_tally_47 : decode cX8_tally 47 = .ok (.bipush 9, 2) := by decide +kernel
theorem dX8_tally_49 : decode cX8_tally 49 = .ok (.if_icmp .gt 23, 3) := by decide +kernel
theorem dX8_tally_52 : decode cX8_tally 52 = .ok (.iload_n 3, 1) := by decide +kernel
theorem dX8_tally_53 : decode cX8_tally 53 = .ok (.ifCond .le 21, 3) := by decide +kernel
theorem dX8_tally_56 : decode cX8_tally 56 = .ok (.aload_n 1, 1) := by decide +kernel
theorem dX8_tally_57 : decode cX8_tally 57 = .ok (.iload_n 3, 1) := by decide +kernel
theorem dX8_tally_58 : decode cX8_tally 58 = .ok (.invokevirtual 48, 3) := by decide +kernel
theorem dX8_tally_61 : decode cX8_tally 61 = .ok (.ifCond .eq 11, 3) := by decide +kernel
theorem dX8_tally_64 : decode cX8_tally 64 = .ok (.aload_n 1, 1) := by decide +kernel
theorem dX8_tally_65 : decode cX8_tally 65 = .ok (.iload_n 2, 1) := by decide +kernel
theorem dX8_tally_66 : decode cX8_tally 66 = .ok (.invokevirtual 48, 3) := by decide +kernel
theorem dX8_tally_69 : decode cX8_tally 69 = .ok (.ifCond .ne 5, 3) := by decide +kernel
theorem dX8_tally_72 : decode cX8_tally 72 = .ok (.iconst 0, 1) := by decide +kernel
theorem dX8_tally_73 : decode cX8_tally 73 = .ok (.ireturn, 1) := by decide +kernel
theorem dX8_tally_74 : decode cX8_tally 74 = .ok (.iinc 2 1, 3) := by decide +kernel
theorem dX8_tally_77 : decode cX8_tally 77 = .ok (.goto (-70), 3) := by decide +kernel
theorem dX8_tally_80 : decode cX8_tally 80 = .ok (.iconst 1, 1) := by decide +kernel
theorem dX8_tally_81 : decode cX8_tally 81 = .ok (.ireturn, 1) := by decide +kernel
set_option maxRecDepth 20000 in
theorem ggX8_unsay_X6_clear : GoodIn wsX8_unsay wsX6_clear := goodIn_r _ [5, 6, 20, 21] (by decide +kernel) (by decide +kernel)
set_option maxRecDepth 20000 in
theorem gX8_unsay_X6_clear : GoodIn wsX8_unsay (wsV RX8 37 RX6 yX6_clear wsX6_clear) := goodIn_app (goodIn_of _ (by decide +kernel)) ggX8_unsay_X6_clear
set_option maxRecDepth 20000 in
theorem ggX8_unsay_X6_size : GoodIn wsX8_unsay wsX6_size := goodIn_r _ [10, 6, 20, 21] (by decide +kernel) (by decide +kernel)
set_option maxRecDepth 20000 in
theorem gX8_unsay_X6_size : GoodIn wsX8_unsay (wsV RX8 41 RX6 yX6_size wsX6_size) := goodIn_app (goodIn_of _ (by decide +kernel)) ggX8_unsay_X6_size
set_option maxRecDepth 20000 in
theorem ggX8_unsay_X6_get : GoodIn wsX8_unsay wsX6_get := goodIn_r _ [14, 6, 15, 20, 21] (by decide +kernel) (by decide +kernel)
set_option maxRecDepth 20000 in
theorem gX8_unsay_X6_get : GoodIn wsX8_unsay (wsV RX8 44 RX6 yX6_get wsX6_get) := goodIn_app (goodIn_of _ (by decide +kernel)) ggX8_unsay_X6_get
set_option maxRecDepth 20000 in
theorem ggX8_unsay_X6_add : GoodIn wsX8_unsay wsX6_add := goodIn_r _ [19, 6, 15, 20, 21] (by decide +kernel) (by decide +kernel)
set_option maxRecDepth 20000 in
theorem gX8_unsay_X6_add : GoodIn wsX8_unsay (wsV RX8 48 RX6 yX6_add wsX6_add) := goodIn_app (goodIn_of _ (by decide +kernel)) ggX8_unsay_X6_add
theorem dX8_unsay_0 : decode cX8_unsay 0 = .ok (.aload_n 1, 1) := by decide +kernel
theorem dX8_unsay_1 : decode cX8_unsay 1 = .ok (.invokevirtual 37, 3) := by decide +kernel
theorem dX8_unsay_4 : decode cX8_unsay 4 = .ok (.pop, 1) := by decide +kernel
theorem dX8_unsay_5 : decode cX8_unsay 5 = .ok (.aload_n 0, 1) := by decide +kernel
theorem dX8_unsay_6 : decode cX8_unsay 6 = .ok (.invokevirtual 41, 3) := by decide +kernel
theorem dX8_unsay_9 : decode cX8_unsay 9 = .ok (.iconst 2, 1) := by decide +kernel
theorem dX8_unsay_10 : decode cX8_unsay 10 = .ok (.irem, 1) := by decide +kernel
theorem dX8_unsay_11 : decode cX8_unsay 11 = .ok (.ifCond .eq 5, 3) := by decide +kernel
theorem dX8_unsay_14 : decode cX8_unsay 14 = .ok (.iconst 0, 1) := by decide +kernel
theorem dX8_unsay_15 : decode cX8_unsay 15 = .ok (.ireturn, 1) := by decide +kernel
theorem dX8_unsay_16 : decode cX8_unsay 16 = .ok (.iconst 0, 1) := by decide +kernel
theorem dX8_unsay_17 : decode cX8_unsay 17 = .ok (.istore_n 2, 1) := by decide +kernel
theorem dX8_unsay_18 : decode cX8_unsay 18 = .ok (.iload_n 2, 1) := by decide +kernel
theorem dX8_unsay_19 : decode cX8_unsay 19 = .ok (.aload_n 0, 1) := by decide +kernel
theorem dX8_unsay_20 : decode cX8_unsay 20 = .ok (.invokevirtual 41, 3) := by decide +kernel
theorem dX8_unsay_23 : decode cX8_unsay 23 = .ok (.if_icmp .ge 63, 3) := by decide +kernel
theorem dX8_unsay_26 : decode cX8_unsay 26 = .ok (.aload_n 0, 1) := by decide +kernel
theorem dX8_unsay_27 : decode cX8_unsay 27 = .ok (.iload_n 2, 1) := by decide +kernel
theorem dX8_unsay_28 : decode cX8_unsay 28 = .ok (.iconst 1, 1) := by decide +kernel
theorem dX8_unsay_29 : decode cX8_unsay 29 = .ok (.iadd, 1) := by decide +kernel
theorem dX8_unsay_30 : decode cX8_unsay 30 = .ok (.invokevirtual 44, 3) := by decide +kernel
theorem dX8_unsay_33 : decode cX8_unsay 33 = .ok (.istore_n 3, 1) := by decide +kernel
theorem dX8_unsay_34 : decode cX8_unsay 34 = .ok (.iload_n 2, 1) := by decide +kernel
theorem dX8_unsay_35 : decode cX8_unsay 35 = .ok (.ifCond .le 16, 3) := by decide +kernel
theorem dX8_unsay_38 : decode cX8_unsay 38 = .ok (.iload_n 3, 1) := by decide +kernel
theorem dX8_unsay_39 : decode cX8_unsay 39 = .ok (.aload_n 0, 1) := by decide +kernel
theorem dX8_unsay_40 : decode cX8_unsay 40 = .ok (.iload_n 2, 1) := by decide +kernel
theorem dX8_unsay_41 : decode cX8_unsay 41 = .ok (.iconst 1, 1) := by decide +kernel
theorem dX8_unsay_42 : decode cX8_unsay 42 = .ok (.isub, 1) := by decide +kernel
theorem dX8_unsay_43 : decode cX8_unsay 43 = .ok (.invokevirtual 44, 3) := by decide +kernel
theorem dX8_unsay_46 : decode cX8_unsay 46 = .ok (.if_icmp .ne 5, 3) := by decide +kernel
theorem dX8_unsay_49 : decode cX8_unsay 49 = .ok (.iconst 0, 1) := by decide +kernel
theorem dX8_unsay_50 : decode cX8_unsay 50 = .ok (.ireturn, 1) := by decide +kernel
theorem dX8_unsay_51 : decode cX8_unsay 51 = .ok (.iconst 0, 1) := by decide +kernel
theorem dX8_unsay_52 : decode cX8_unsay 52 = .ok (.istore 4, 2) := by decide +kernel
theorem dX8_unsay_54 : decode cX8_unsay 54 = .ok (.iload 4, 2) := by decide +kernel
theorem dX8_unsay_56 : decode cX8_unsay 56 = .ok (.aload_n 0, 1) := by decide +kernel
theorem dX8_unsay_57 : decode cX8_unsay 57 = .ok (.iload_n 2, 1) := by decide +kernel
theorem dX8_unsay_58 : decode cX8_unsay 58 = .ok (.invokevirtual 44, 3) := by decide +kernel
theorem dX8_unsay_61 : decode cX8_unsay 61 = .ok (.if_icmp .ge 19, 3) := by decide +kernel
theorem dX8_unsay_64 : decode cX8_unsay 64 = .ok (.aload_n 1, 1) := by decide +kernel
theorem dX8_unsay_65 : decode cX8_unsay 65 = .ok (.iload_n 3, 1) := by decide +kernel
theorem dX8_unsay_66 : decode cX8_unsay 66 = .ok (.invokevirtual 48, 3) := by decide +kernel
theorem dX8_unsay_69 : decode cX8_unsay 69 = .ok (.ifCond .ne 5, 3) := by decide +kernel
theorem dX8_unsay_72 : decode cX8_unsay 72 = .ok (.iconst 0, 1) := by decide +kernel
theorem dX8_unsay_73 : decode cX8_unsay 73 = .ok (.ireturn, 1) := by decide +kernel
theorem dX8_unsay_74 : decode cX8_unsay 74 = .ok (.iinc 4 1, 3) := by decide +kernel
theorem dX8_unsay_77 : decode cX8_unsay 77 = .ok (.goto (-23), 3) := by decide +kernel
theorem dX8_unsay_80 : decode cX8_unsay 80 = .ok (.iinc 2 2, 3) := by decide +kernel
theorem dX8_unsay_83 : decode cX8_unsay 83 = .ok (.goto (-65), 3) := by decide +kernel
theorem dX8_unsay_86 : decode cX8_unsay 86 = .ok (.iconst 1, 1) := by decide +kernel
theorem dX8_unsay_87 : decode cX8_unsay 87 = .ok (.ireturn, 1) := by decide +kernel
theorem dX9_init_0 : decode cX9_init 0 = .ok (.aload_n 0, 1) := by decide +kernel
theorem dX9_init_1 : decode cX9_init 1 = .ok (.invokespecial 3, 3) := by decide +kernel
theorem dX9_init_4 : decode cX9_init 4 = .ok (.aload_n 0, 1) := by decide +kernel
theorem dX9_init_5 : decode cX9_init 5 = .ok (.bipush 10, 2) := by decide +kernel
theorem dX9_init_7 : decode cX9_init 7 = .ok (.newarray .int, 2) := by decide +kernel
theorem dX9_init_9 : decode cX9_init 9 = .ok (.putfield 9, 3) := by decide +kernel
theorem dX9_init_12 : decode cX9_init 12 = .ok (.return_, 1) := by decide +kernel
theorem dX9_answer_0 : decode cX9_answer 0 = .ok (.aload_n 0, 1) := by decide +kernel
theorem dX9_answer_1 : decode cX9_answer 1 = .ok (.getfield 15, 3) := by decide +kernel
theorem dX9_answer_4 : decode cX9_answer 4 = .ok (.lreturn, 1) := by decide +kernel
set_option maxRecDepth 20000 in
theorem ggX9_search_X9_fill : GoodIn wsX9_search wsX9_fill := goodIn_r _ [8, 9, 10, 11, 12, 7, 13, 14, 15, 16, 17, 2, 1, 4, 18, 5, 6, 19, 20, 21, 22] (by decide +kernel) (by decide +kernel)
set_option maxRecDepth 20000 in
theorem gX9_search_X9_fill : GoodIn wsX9_search (va_wsS RX9 28 yX9_fill wsX9_fill) := goodIn_app (goodIn_of _ (by decide +kernel)) ggX9_search_X9_fill
theorem dX9_search_0 : decode cX9_search 0 = .ok (.aload_n 0, 1) := by decide +kernel
theorem dX9_search_1 : decode cX9_search 1 = .ok (.iload_n 2, 1) := by decide +kernel
theorem dX9_search_2 : decode cX9_search 2 = .ok (.putfield 19, 3) := by decide +kernel
theorem dX9_search_5 : decode cX9_search 5 = .ok (.aload_n 0, 1) := by decide +kernel
theorem dX9_search_6 : decode cX9_search 6 = .ok (.iconst 0, 1) := by decide +kernel
theorem dX9_search_7 : decode cX9_search 7 = .ok (.putfield 23, 3) := by decide +kernel
theorem dX9_search_10 : decode cX9_search 10 = .ok (.aload_n 0, 1) := by decide +kernel
theorem dX9_search_11 : decode cX9_search 11 = .ok (.ldc2_w 26, 3) := by decide +kernel
theorem dX9_search_14 : decode cX9_search 14 = .ok (.putfield 15, 3) := by decide +kernel
theorem dX9_search_17 : decode cX9_search 17 = .ok (.aload_n 0, 1) := by decide +kernel
theorem dX9_search_18 : decode cX9_search 18 = .ok (.iload_n 1, 1) := by decide +kernel
theorem dX9_search_19 : decode cX9_search 19 = .ok (.iconst 0, 1) := by decide +kernel
theorem dX9_search_20 : decode cX9_search 20 = .ok (.iload_n 1, 1) := by decide +kernel
theorem dX9_search_21 : decode cX9_search 21 = .ok (.iload_n 1, 1) := by decide +kernel
theorem dX9_search_22 : decode cX9_search 22 = .ok (.invokestatic 28, 3) := by decide +kernel
theorem dX9_search_25 : decode cX9_search 25 = .ok (.aload_n 0, 1) := by decide +kernel
theorem dX9_search_26 : decode cX9_search 26 = .ok (.getfield 23, 3) := by decide +kernel
theorem dX9_search_29 : decode cX9_search 29 = .ok (.ireturn, 1) := by decide +kernel
set_option maxRecDepth 20000 in
theorem ggX9_fill_X9_tells : GoodIn wsX9_fill wsX9_tells := goodIn_r _ [6, 1, 17, 18, 19, 20] (by decide +kernel) (by decide +kernel)
set_option maxRecDepth 20000 in
theorem gX9_fill_X9_tells : GoodIn wsX9_fill (wsV RX9 32 RX9 yX9_tells wsX9_tells) := goodIn_app (goodIn_of _ (by decide +kernel)) ggX9_fill_X9_tells
set_option maxRecDepth 20000 in
theorem ggX9_fill_X9_keep : GoodIn wsX9_fill wsX9_keep := goodIn_r _ [10, 11, 12, 13, 1, 14, 17, 18, 19, 20] (by decide +kernel) (by decide +kernel)
set_option maxRecDepth 20000 in
theorem gX9_fill_X9_keep : GoodIn wsX9_fill (wsV RX9 36 RX9 yX9_keep wsX9_keep) := goodIn_app (goodIn_of _ (by decide +kernel)) ggX9_fill_X9_keep
set_option maxRecDepth 20000 in
theorem ggX9_fill_X9_fill : GoodIn wsX9_fill wsX9_fill := goodIn_r _ [0, 1, 2, 3, 4, 5, 6, 7, 8, 9, 10, 11, 12, 13, 14, 15, 16, 17, 18, 19, 20] (by decide +kernel) (by decide +kernel)
set_option maxRecDepth 20000 in
theorem gX9_fill_X9_fill : GoodIn wsX9_fill (va_wsS RX9 28 yX9_fill wsX9_fill) := goodIn_app (goodIn_of _ (by decide +kernel)) ggX9_fill_X9_fill
theorem dX9_fill_0 : decode cX9_fill 0 = .ok (.iload_n 2, 1) := by decide +kernel
theorem dX9_fill_1 : decode cX9_fill 1 = .ok (.ifCond .lt 17, 3) := by decide +kernel
theorem dX9_fill_4 : decode cX9_fill 4 = .ok (.iload_n 2, 1) := by decide +kernel
theorem dX9_fill_5 : decode cX9_fill 5 = .ok (.iload_n 1, 1) := by decide +kernel
theorem dX9_fill_6 : decode cX9_fill 6 = .ok (.if_icmp .ge 12, 3) := by decide +kernel
theorem dX9_fill_9 : decode cX9_fill 9 = .ok (.iload_n 2, 1) := by decide +kernel
theorem dX9_fill_10 : decode cX9_fill 10 = .ok (.aload_n 0, 1) := by decide +kernel
theorem dX9_fill_11 : decode cX9_fill 11 = .ok (.getfield 9, 3) := by decide +kernel
theorem dX9_fill_14 : decode cX9_fill 14 = .ok (.arraylength, 1) := by decide +kernel
theorem dX9_fill_15 : decode cX9_fill 15 = .ok (.if_icmp .lt 17, 3) := by decide +kernel
theorem dX9_fill_18 : decode cX9_fill 18 = .ok (.aload_n 0, 1) := by decide +kernel
theorem dX9_fill_19 : decode cX9_fill 19 = .ok (.iload_n 1, 1) := by decide +kernel
theorem dX9_fill_20 : decode cX9_fill 20 = .ok (.invokevirtual 32, 3) := by decide +kernel
theorem dX9_fill_23 : decode cX9_fill 23 = .ok (.ifCond .eq 8, 3) := by decide +kernel
theorem dX9_fill_26 : decode cX9_fill 26 = .ok (.aload_n 0, 1) := by decide +kernel
theorem dX9_fill_27 : decode cX9_fill 27 = .ok (.iload_n 1, 1) := by decide +kernel
theorem dX9_fill_28 : decode cX9_fill 28 = .ok (.invokevirtual 36, 3) := by decide +kernel
theorem dX9_fill_31 : decode cX9_fill 31 = .ok (.return_, 1) := by decide +kernel
theorem dX9_fill_32 : decode cX9_fill 32 = .ok (.iconst 0, 1) := by decide +kernel
theorem dX9_fill_33 : decode cX9_fill 33 = .ok (.istore 5, 2) := by decide +kernel
theorem dX9_fill_35 : decode cX9_fill 35 = .ok (.iload 5, 2) := by decide +kernel
theorem dX9_fill_37 : decode cX9_fill 37 = .ok (.iload_n 1, 1) := by decide +kernel
theorem dX9_fill_38 : decode cX9_fill 38 = .ok (.if_icmp .ge 51, 3) := by decide +kernel
theorem dX9_fill_41 : decode cX9_fill 41 = .ok (.iload 5, 2) := by decide +kernel
theorem dX9_fill_43 : decode cX9_fill 43 = .ok (.iload_n 3, 1) := by decide +kernel
theorem dX9_fill_44 : decode cX9_fill 44 = .ok (.if_icmp .gt 45, 3) := by decide +kernel
theorem dX9_fill_47 : decode cX9_fill 47 = .ok (.iload 5, 2) := by decide +kernel
theorem dX9_fill_49 : decode cX9_fill 49 = .ok (.iload_n 2, 1) := by decide +kernel
theorem dX9_fill_50 : decode cX9_fill 50 = .ok (.imul, 1) := by decide +kernel
theorem dX9_fill_51 : decode cX9_fill 51 = .ok (.iload 4, 2) := by decide +kernel
theorem dX9_fill_53 : decode cX9_fill 53 = .ok (.if_icmp .gt 36, 3) := by decide +kernel
theorem dX9_fill_56 : decode cX9_fill 56 = .ok (.aload_n 0, 1) := by decide +kernel
theorem dX9_fill_57 : decode cX9_fill 57 = .ok (.getfield 9, 3) := by decide +kernel
theorem dX9_fill_60 : decode cX9_fill 60 = .ok (.iload_n 2, 1) := by decide +kernel
theorem dX9_fill_61 : decode cX9_fill 61 = .ok (.iload 5, 2) := by decide +kernel
theorem dX9_fill_63 : decode cX9_fill 63 = .ok (.iastore, 1) := by decide +kernel
theorem dX9_fill_64 : decode cX9_fill 64 = .ok (.aload_n 0, 1) := by decide +kernel
theorem dX9_fill_65 : decode cX9_fill 65 = .ok (.iload_n 1, 1) := by decide +kernel
theorem dX9_fill_66 : decode cX9_fill 66 = .ok (.iload_n 2, 1) := by decide +kernel
theorem dX9_fill_67 : decode cX9_fill 67 = .ok (.iconst 1, 1) := by decide +kernel
theorem dX9_fill_68 : decode cX9_fill 68 = .ok (.iadd, 1) := by decide +kernel
theorem dX9_fill_69 : decode cX9_fill 69 = .ok (.iload_n 3, 1) := by decide +kernel
theorem dX9_fill_70 : decode cX9_fill 70 = .ok (.iload 5, 2) := by decide +kernel
theorem dX9_fill_72 : decode cX9_fill 72 = .ok (.isub, 1) := by decide +kernel
theorem dX9_fill_73 : decode cX9_fill 73 = .ok (.iload 4, 2) := by decide +kernel
theorem dX9_fill_75 : decode cX9_fill 75 = .ok (.iload 5, 2) := by decide +kernel
theorem dX9_fill_77 : decode cX9_fill 77 = .ok (.iload_n 2, 1) := by decide +kernel
theorem dX9_fill_78 : decode cX9_fill 78 = .ok (.imul, 1) := by decide +kernel
theorem dX9_fill_79 : decode cX9_fill 79 = .ok (.isub, 1) := by decide +kernel
theorem dX9_fill_80 : decode cX9_fill 80 = .ok (.invokestatic 28, 3) := by decide +kernel
theorem dX9_fill_83 : decode cX9_fill 83 = .ok (.iinc 5 1, 3) := by decide +kernel
theorem dX9_fill_86 : decode cX9_fill 86 = .ok (.goto (-51), 3) := by decide +kernel
theorem dX9_fill_89 : decode cX9_fill 89 = .ok (.return_, 1) := by decide +kernel
theorem dX9_tells_0 : decode cX9_tells 0 = .ok (.iconst 0, 1) := by decide +kernel
theorem dX9_tells_1 : decode cX9_tells 1 = .ok (.istore_n 2, 1) := by decide +kernel
theorem dX9_tells_2 : decode cX9_tells 2 = .ok (.iload_n 2, 1) := by decide +kernel
theorem dX9_tells_3 : decode cX9_tells 3 = .ok (.iload_n 1, 1) := by decide +kernel
theorem dX9_tells_4 : decode cX9_tells 4 = .ok (.if_icmp .ge 71, 3) := by decide +kernel
theorem dX9_tells_7 : decode cX9_tells 7 = .ok (.iload_n 2, 1) := by decide +kernel
theorem dX9_tells_8 : decode cX9_tells 8 = .ok (.aload_n 0, 1) := by decide +kernel
theorem dX9_tells_9 : decode cX9_tells 9 = .ok (.getfield 9, 3) := by decide +kernel
theorem dX9_tells_12 : decode cX9_tells 12 = .ok (.arraylength, 1) := by decide +kernel
theorem dX9_tells_13 : decode cX9_tells 13 = .ok (.if_icmp .ge 62, 3) := by decide +kernel
theorem dX9_tells_16 : decode cX9_tells 16 = .ok (.iconst 0, 1) := by decide +kernel
theorem dX9_tells_17 : decode cX9_tells 17 = .ok (.istore_n 3, 1) := by decide +kernel
theorem dX9_tells_18 : decode cX9_tells 18 = .ok (.iconst 0, 1) := by decide +kernel
theorem dX9_tells_19 : decode cX9_tells 19 = .ok (.istore 4, 2) := by decide +kernel
theorem dX9_tells_21 : decode cX9_tells 21 = .ok (.iload 4, 2) := by decide +kernel
theorem dX9_tells_23 : decode cX9_tells 23 = .ok (.iload_n 1, 1) := by decide +kernel
theorem dX9_tells_24 : decode cX9_tells 24 = .ok (.if_icmp .ge 33, 3) := by decide +kernel
theorem dX9_tells_27 : decode cX9_tells 27 = .ok (.iload 4, 2) := by decide +kernel
theorem dX9_tells_29 : decode cX9_tells 29 = .ok (.aload_n 0, 1) := by decide +kernel
theorem dX9_tells_30 : decode cX9_tells 30 = .ok (.getfield 9, 3) := by decide +kernel
theorem dX9_tells_33 : decode cX9_tells 33 = .ok (.arraylength, 1) := by decide +kernel
theorem dX9_tells_34 : decode cX9_tells 34 = .ok (.if_icmp .ge 23, 3) := by decide +kernel
theorem dX9_tells_37 : decode cX9_tells 37 = .ok (.aload_n 0, 1) := by decide +kernel
theorem dX9_tells_38 : decode cX9_tells 38 = .ok (.getfield 9, 3) := by decide +kernel
theorem dX9_tells_41 : decode cX9_tells 41 = .ok (.iload 4, 2) := by decide +kernel
theorem dX9_tells_43 : decode cX9_tells 43 = .ok (.iaload, 1) := by decide +kernel
theorem dX9_tells_44 : decode cX9_tells 44 = .ok (.iload_n 2, 1) := by decide +kernel
theorem dX9_tells_45 : decode cX9_tells 45 = .ok (.if_icmp .ne 6, 3) := by decide +kernel
theorem dX9_tells_48 : decode cX9_tells 48 = .ok (.iinc 3 1, 3) := by decide +kernel
theorem dX9_tells_51 : decode cX9_tells 51 = .ok (.iinc 4 1, 3) := by decide +kernel
theorem dX9_tells_54 : decode cX9_tells 54 = .ok (.goto (-33), 3) := by decide +kernel
theorem dX9_tells_57 : decode cX9_tells 57 = .ok (.iload_n 3, 1) := by decide +kernel
theorem dX9_tells_58 : decode cX9_tells 58 = .ok (.aload_n 0, 1) := by decide +kernel
theorem dX9_tells_59 : decode cX9_tells 59 = .ok (.getfield 9, 3) := by decide +kernel
theorem dX9_tells_62 : decode cX9_tells 62 = .ok (.iload_n 2, 1) := by decide +kernel
theorem dX9_tells_63 : decode cX9_tells 63 = .ok (.iaload, 1) := by decide +kernel
theorem dX9_tells_64 : decode cX9_tells 64 = .ok (.if_icmp .eq 5, 3) := by decide +kernel
theorem dX9_tells_67 : decode cX9_tells 67 = .ok (.iconst 0, 1) := by decide +kernel
theorem dX9_tells_68 : decode cX9_tells 68 = .ok (.ireturn, 1) := by decide +kernel
theorem dX9_tells_69 : decode cX9_tells 69 = .ok (.iinc 2 1, 3) := by decide +kernel
theorem dX9_tells_72 : decode cX9_tells 72 = .ok (.goto (-70), 3) := by decide +kernel
theorem dX9_tells_75 : decode cX9_tells 75 = .ok (.iconst 1, 1) := by decide +kernel
theorem dX9_tells_76 : decode cX9_tells 76 = .ok (.ireturn, 1) := by decide +kernel
theorem dX9_keep_0 : decode cX9_keep 0 = .ok (.aload_n 0, 1) := by decide +kernel
theorem dX9_keep_1 : decode cX9_keep 1 = .ok (.getfield 23, 3) := by decide +kernel
theorem dX9_keep_4 : decode cX9_keep 4 = .ok (.aload_n 0, 1) := by decide +kernel
theorem dX9_keep_5 : decode cX9_keep 5 = .ok (.getfield 19, 3) := by decide +kernel
theorem dX9_keep_8 : decode cX9_keep 8 = .ok (.if_icmp .ne 50, 3) := by decide +kernel
theorem dX9_keep_11 : decode cX9_keep 11 = .ok (.aload_n 0, 1) := by decide +kernel
theorem dX9_keep_12 : decode cX9_keep 12 = .ok (.lconst 0, 1) := by decide +kernel
theorem dX9_keep_13 : decode cX9_keep 13 = .ok (.putfield 15, 3) := by decide +kernel
theorem dX9_keep_16 : decode cX9_keep 16 = .ok (.iconst 0, 1) := by decide +kernel
theorem dX9_keep_17 : decode cX9_keep 17 = .ok (.istore_n 2, 1) := by decide +kernel
theorem dX9_keep_18 : decode cX9_keep 18 = .ok (.iload_n 2, 1) := by decide +kernel
theorem dX9_keep_19 : decode cX9_keep 19 = .ok (.iload_n 1, 1) := by decide +kernel
theorem dX9_keep_20 : decode cX9_keep 20 = .ok (.if_icmp .ge 38, 3) := by decide +kernel
theorem dX9_keep_23 : decode cX9_keep 23 = .ok (.iload_n 2, 1) := by decide +kernel
theorem dX9_keep_24 : decode cX9_keep 24 = .ok (.aload_n 0, 1) := by decide +kernel
theorem dX9_keep_25 : decode cX9_keep 25 = .ok (.getfield 9, 3) := by decide +kernel
theorem dX9_keep_28 : decode cX9_keep 28 = .ok (.arraylength, 1) := by decide +kernel
theorem dX9_keep_29 : decode cX9_keep 29 = .ok (.if_icmp .ge 29, 3) := by decide +kernel
theorem dX9_keep_32 : decode cX9_keep 32 = .ok (.aload_n 0, 1) := by decide +kernel
theorem dX9_keep_33 : decode cX9_keep 33 = .ok (.ldc2_w 40, 3) := by decide +kernel
theorem dX9_keep_36 : decode cX9_keep 36 = .ok (.aload_n 0, 1) := by decide +kernel
theorem dX9_keep_37 : decode cX9_keep 37 = .ok (.getfield 15, 3) := by decide +kernel
theorem dX9_keep_40 : decode cX9_keep 40 = .ok (.lmul, 1) := by decide +kernel
theorem dX9_keep_41 : decode cX9_keep 41 = .ok (.aload_n 0, 1) := by decide +kernel
theorem dX9_keep_42 : decode cX9_keep 42 = .ok (.getfield 9, 3) := by decide +kernel
theorem dX9_keep_45 : decode cX9_keep 45 = .ok (.iload_n 2, 1) := by decide +kernel
theorem dX9_keep_46 : decode cX9_keep 46 = .ok (.iaload, 1) := by decide +kernel
theorem dX9_keep_47 : decode cX9_keep 47 = .ok (.i2l, 1) := by decide +kernel
theorem dX9_keep_48 : decode cX9_keep 48 = .ok (.ladd, 1) := by decide +kernel
theorem dX9_keep_49 : decode cX9_keep 49 = .ok (.putfield 15, 3) := by decide +kernel
theorem dX9_keep_52 : decode cX9_keep 52 = .ok (.iinc 2 1, 3) := by decide +kernel
theorem dX9_keep_55 : decode cX9_keep 55 = .ok (.goto (-37), 3) := by decide +kernel
theorem dX9_keep_58 : decode cX9_keep 58 = .ok (.aload_n 0, 1) := by decide +kernel
theorem dX9_keep_59 : decode cX9_keep 59 = .ok (.dup, 1) := by decide +kernel
theorem dX9_keep_60 : decode cX9_keep 60 = .ok (.getfield 23, 3) := by decide +kernel
theorem dX9_keep_63 : decode cX9_keep 63 = .ok (.iconst 1, 1) := by decide +kernel
theorem dX9_keep_64 : decode cX9_keep 64 = .ok (.iadd, 1) := by decide +kernel
theorem dX9_keep_65 : decode cX9_keep 65 = .ok (.putfield 23, 3) := by decide +kernel
theorem dX9_keep_68 : decode cX9_keep 68 = .ok (.return_, 1) := by decide +kernel
theorem dJx29ce0_ordinal_8abf5_0 : decode cJx29ce0_ordinal_8abf5 0 = .ok (.aload_n 0, 1) := by decide +kernel
theorem dJx29ce0_ordinal_8abf5_1 : decode cJx29ce0_ordinal_8abf5 1 = .ok (.getfield 7, 3) := by decide +kernel
theorem dJx29ce0_ordinal_8abf5_4 : decode cJx29ce0_ordinal_8abf5 4 = .ok (.ireturn, 1) := by decide +kernel
theorem dJ9_max_7cf53_0 : decode cJ9_max_7cf53 0 = .ok (.iload_n 0, 1) := by decide +kernel
theorem dJ9_max_7cf53_1 : decode cJ9_max_7cf53 1 = .ok (.iload_n 1, 1) := by decide +kernel
theorem dJ9_max_7cf53_2 : decode cJ9_max_7cf53 2 = .ok (.if_icmp .lt 7, 3) := by decide +kernel
theorem dJ9_max_7cf53_5 : decode cJ9_max_7cf53 5 = .ok (.iload_n 0, 1) := by decide +kernel
theorem dJ9_max_7cf53_6 : decode cJ9_max_7cf53 6 = .ok (.goto 4, 3) := by decide +kernel
theorem dJ9_max_7cf53_9 : decode cJ9_max_7cf53 9 = .ok (.iload_n 1, 1) := by decide +kernel
theorem dJ9_max_7cf53_10 : decode cJ9_max_7cf53 10 = .ok (.ireturn, 1) := by decide +kernel
theorem dJ9_min_7cf53_0 : decode cJ9_min_7cf53 0 = .ok (.iload_n 0, 1) := by decide +kernel
theorem dJ9_min_7cf53_1 : decode cJ9_min_7cf53 1 = .ok (.iload_n 1, 1) := by decide +kernel
theorem dJ9_min_7cf53_2 : decode cJ9_min_7cf53 2 = .ok (.if_icmp .gt 7, 3) := by decide +kernel
theorem dJ9_min_7cf53_5 : decode cJ9_min_7cf53 5 = .ok (.iload_n 0, 1) := by decide +kernel
theorem dJ9_min_7cf53_6 : decode cJ9_min_7cf53 6 = .ok (.goto 4, 3) := by decide +kernel
theorem dJ9_min_7cf53_9 : decode cJ9_min_7cf53 9 = .ok (.iload_n 1, 1) := by decide +kernel
theorem dJ9_min_7cf53_10 : decode cJ9_min_7cf53 10 = .ok (.ireturn, 1) := by decide +kernel
theorem dJ7_fill_53178_0 : decode cJ7_fill_53178 0 = .ok (.iconst 0, 1) := by decide +kernel
theorem dJ7_fill_53178_1 : decode cJ7_fill_53178 1 = .ok (.istore_n 2, 1) := by decide +kernel
theorem dJ7_fill_53178_2 : decode cJ7_fill_53178 2 = .ok (.aload_n 0, 1) := by decide +kernel
theorem dJ7_fill_53178_3 : decode cJ7_fill_53178 3 = .ok (.arraylength, 1) := by decide +kernel
theorem dJ7_fill_53178_4 : decode cJ7_fill_53178 4 = .ok (.istore_n 3, 1) := by decide +kernel
theorem dJ7_fill_53178_5 : decode cJ7_fill_53178 5 = .ok (.iload_n 2, 1) := by decide +kernel
theorem dJ7_fill_53178_6 : decode cJ7_fill_53178 6 = .ok (.iload_n 3, 1) := by decide +kernel
theorem dJ7_fill_53178_7 : decode cJ7_fill_53178 7 = .ok (.if_icmp .ge 13, 3) := by decide +kernel
theorem dJ7_fill_53178_10 : decode cJ7_fill_53178 10 = .ok (.aload_n 0, 1) := by decide +kernel
theorem dJ7_fill_53178_11 : decode cJ7_fill_53178 11 = .ok (.iload_n 2, 1) := by decide +kernel
theorem dJ7_fill_53178_12 : decode cJ7_fill_53178 12 = .ok (.iload_n 1, 1) := by decide +kernel
theorem dJ7_fill_53178_13 : decode cJ7_fill_53178 13 = .ok (.iastore, 1) := by decide +kernel
theorem dJ7_fill_53178_14 : decode cJ7_fill_53178 14 = .ok (.iinc 2 1, 3) := by decide +kernel
theorem dJ7_fill_53178_17 : decode cJ7_fill_53178 17 = .ok (.goto (-12), 3) := by decide +kernel
theorem dJ7_fill_53178_20 : decode cJ7_fill_53178 20 = .ok (.return_, 1) := by decide +kernel
end
section
set_option maxRecDepth 20000 in
theorem ggX10_init_X3_init : GoodIn wsX10_init wsX3_init := goodIn_r _ [39, 40, 2, 3, 41, 42, 43, 109] (by decide +kernel) (by decide +kernel)
set_option maxRecDepth 20000 in
theorem gX10_init_X3_init_n17 : GoodIn wsX10_init (wsX3_init) := ggX10_init_X3_init
set_option maxRecDepth 20000 in
theorem ggX10_init_X2_init : GoodIn wsX10_init wsX2_init := goodIn_r _ [46, 47, 2, 3, 42, 48, 49, 110, 111] (by decide +kernel) (by decide +kernel)
set_option maxRecDepth 20000 in
theorem gX10_init_X2_init : GoodIn wsX10_init (wsX2_init) := ggX10_init_X2_init
set_option maxRecDepth 20000 in
theorem ggX10_init_X6_init : GoodIn wsX10_init wsX6_init := goodIn_r _ [52, 53, 2, 3, 54, 55, 56, 57, 42, 58, 112, 113] (by decide +kernel) (by decide +kernel)
set_option maxRecDepth 20000 in
theorem gX10_init_X6_init : GoodIn wsX10_init (wsX6_init) := ggX10_init_X6_init
set_option maxRecDepth 20000 in
theorem ggX10_init_X1_init : GoodIn wsX10_init wsX1_init := goodIn_r _ [60, 61, 2, 3, 62, 15, 16, 63, 64, 65, 51, 52, 53, 54, 55, 56, 57, 42, 58, 112, 113, 114, 115, 116] (by decide +kernel) (by decide +kernel)
set_option maxRecDepth 20000 in
theorem gX10_init_X1_init_n42 : GoodIn wsX10_init (wsX1_init) := ggX10_init_X1_init
set_option maxRecDepth 20000 in
theorem ggX10_init_X8_init : GoodIn wsX10_init wsX8_init := goodIn_r _ [67, 68, 2, 3, 69, 15, 16, 70, 71, 72, 51, 52, 53, 54, 55, 56, 57, 42, 58, 112, 113, 117, 118] (by decide +kernel) (by decide +kernel)
set_option maxRecDepth 20000 in
theorem gX10_init_X8_init_n55 : GoodIn wsX10_init (wsX8_init) := ggX10_init_X8_init
set_option maxRecDepth 20000 in
theorem ggX10_init_X4_init : GoodIn wsX10_init wsX4_init := goodIn_r _ [75, 76, 2, 3, 77, 78, 15, 16, 79, 51, 52, 53, 54, 55, 56, 57, 42, 58, 119, 120, 121, 112, 113] (by decide +kernel) (by decide +kernel)
set_option maxRecDepth 20000 in
theorem gX10_init_X4_init : GoodIn wsX10_init (wsX4_init) := ggX10_init_X4_init
set_option maxRecDepth 20000 in
theorem ggX10_init_X9_init : GoodIn wsX10_init wsX9_init := goodIn_r _ [81, 82, 2, 3, 42, 83, 122, 123, 124, 125] (by decide +kernel) (by decide +kernel)
set_option maxRecDepth 20000 in
theorem gX10_init_X9_init_n69 : GoodIn wsX10_init (wsX9_init) := ggX10_init_X9_init
set_option maxRecDepth 20000 in
theorem ggX10_init_X5_init : GoodIn wsX10_init wsX5_init := goodIn_r _ [86, 87, 2, 3, 88, 15, 16, 89, 42, 90, 91, 92, 93, 51, 52, 53, 54, 55, 56, 57, 58, 94, 95, 96, 97, 98, 112, 113, 126, 127, 128, 129, 130] (by decide +kernel) (by decide +kernel)
set_option maxRecDepth 20000 in
theorem gX10_init_X5_init : GoodIn wsX10_init (wsX5_init) := ggX10_init_X5_init
theorem dX10_init_0 : decode cX10_init 0 = .ok (.aload_n 0, 1) := by decide +kernel
theorem dX10_init_1 : decode cX10_init 1 = .ok (.invokespecial 1, 3) := by decide +kernel
theorem dX10_init_4 : decode cX10_init 4 = .ok (.aload_n 0, 1) := by decide +kernel
theorem dX10_init_5 : decode cX10_init 5 = .ok (.iconst 4, 1) := by decide +kernel
theorem dX10_init_6 : decode cX10_init 6 = .ok (.anewarray 9, 3) := by decide +kernel
theorem dX10_init_9 : decode cX10_init 9 = .ok (.putfield 11, 3) := by decide +kernel
theorem dX10_init_12 : decode cX10_init 12 = .ok (.aload_n 0, 1) := by decide +kernel
theorem dX10_init_13 : decode cX10_init 13 = .ok (.new 15, 3) := by decide +kernel
theorem dX10_init_16 : decode cX10_init 16 = .ok (.dup, 1) := by decide +kernel
theorem dX10_init_17 : decode cX10_init 17 = .ok (.invokespecial 17, 3) := by decide +kernel
theorem dX10_init_20 : decode cX10_init 20 = .ok (.putfield 18, 3) := by decide +kernel
theorem dX10_init_23 : decode cX10_init 23 = .ok (.aload_n 0, 1) := by decide +kernel
theorem dX10_init_24 : decode cX10_init 24 = .ok (.new 22, 3) := by decide +kernel
theorem dX10_init_27 : decode cX10_init 27 = .ok (.dup, 1) := by decide +kernel
theorem dX10_init_28 : decode cX10_init 28 = .ok (.aload_n 0, 1) := by decide +kernel
theorem dX10_init_29 : decode cX10_init 29 = .ok (.getfield 18, 3) := by decide +kernel
theorem dX10_init_32 : decode cX10_init 32 = .ok (.invokespecial 24, 3) := by decide +kernel
theorem dX10_init_35 : decode cX10_init 35 = .ok (.putfield 27, 3) := by decide +kernel
theorem dX10_init_38 : decode cX10_init 38 = .ok (.aload_n 0, 1) := by decide +kernel
theorem dX10_init_39 : decode cX10_init 39 = .ok (.new 31, 3) := by decide +kernel
theorem dX10_init_42 : decode cX10_init 42 = .ok (.dup, 1) := by decide +kernel
theorem dX10_init_43 : decode cX10_init 43 = .ok (.bipush 120, 2) := by decide +kernel
theorem dX10_init_45 : decode cX10_init 45 = .ok (.invokespecial 33, 3) := by decide +kernel
theorem dX10_init_48 : decode cX10_init 48 = .ok (.putfield 36, 3) := by decide +kernel
theorem dX10_init_51 : decode cX10_init 51 = .ok (.aload_n 0, 1) := by decide +kernel
theorem dX10_init_52 : decode cX10_init 52 = .ok (.new 40, 3) := by decide +kernel
theorem dX10_init_55 : decode cX10_init 55 = .ok (.dup, 1) := by decide +kernel
theorem dX10_init_56 : decode cX10_init 56 = .ok (.invokespecial 42, 3) := by decide +kernel
theorem dX10_init_59 : decode cX10_init 59 = .ok (.putfield 43, 3) := by decide +kernel
theorem dX10_init_62 : decode cX10_init 62 = .ok (.aload_n 0, 1) := by decide +kernel
theorem dX10_init_63 : decode cX10_init 63 = .ok (.new 31, 3) := by decide +kernel
theorem dX10_init_66 : decode cX10_init 66 = .ok (.dup, 1) := by decide +kernel
theorem dX10_init_67 : decode cX10_init 67 = .ok (.bipush 40, 2) := by decide +kernel
theorem dX10_init_69 : decode cX10_init 69 = .ok (.invokespecial 33, 3) := by decide +kernel
theorem dX10_init_72 : decode cX10_init 72 = .ok (.putfield 47, 3) := by decide +kernel
theorem dX10_init_75 : decode cX10_init 75 = .ok (.aload_n 0, 1) := by decide +kernel
theorem dX10_init_76 : decode cX10_init 76 = .ok (.new 31, 3) := by decide +kernel
theorem dX10_init_79 : decode cX10_init 79 = .ok (.dup, 1) := by decide +kernel
theorem dX10_init_80 : decode cX10_init 80 = .ok (.bipush 40, 2) := by decide +kernel
theorem dX10_init_82 : decode cX10_init 82 = .ok (.invokespecial 33, 3) := by decide +kernel
theorem dX10_init_85 : decode cX10_init 85 = .ok (.putfield 50, 3) := by decide +kernel
theorem dX10_init_88 : decode cX10_init 88 = .ok (.aload_n 0, 1) := by decide +kernel
theorem dX10_init_89 : decode cX10_init 89 = .ok (.new 53, 3) := by decide +kernel
theorem dX10_init_92 : decode cX10_init 92 = .ok (.dup, 1) := by decide +kernel
theorem dX10_init_93 : decode cX10_init 93 = .ok (.invokespecial 55, 3) := by decide +kernel
theorem dX10_init_96 : decode cX10_init 96 = .ok (.putfield 56, 3) := by decide +kernel
theorem dX10_init_99 : decode cX10_init 99 = .ok (.aload_n 0, 1) := by decide +kernel
theorem dX10_init_100 : decode cX10_init 100 = .ok (.new 60, 3) := by decide +kernel
theorem dX10_init_103 : decode cX10_init 103 = .ok (.dup, 1) := by decide +kernel
theorem dX10_init_104 : decode cX10_init 104 = .ok (.invokespecial 62, 3) := by decide +kernel
theorem dX10_init_107 : decode cX10_init 107 = .ok (.putfield 63, 3) := by decide +kernel
theorem dX10_init_110 : decode cX10_init 110 = .ok (.aload_n 0, 1) := by decide +kernel
theorem dX10_init_111 : decode cX10_init 111 = .ok (.new 67, 3) := by decide +kernel
theorem dX10_init_114 : decode cX10_init 114 = .ok (.dup, 1) := by decide +kernel
theorem dX10_init_115 : decode cX10_init 115 = .ok (.invokespecial 69, 3) := by decide +kernel
theorem dX10_init_118 : decode cX10_init 118 = .ok (.putfield 70, 3) := by decide +kernel
theorem dX10_init_121 : decode cX10_init 121 = .ok (.iconst 0, 1) := by decide +kernel
theorem dX10_init_122 : decode cX10_init 122 = .ok (.istore_n 1, 1) := by decide +kernel
theorem dX10_init_123 : decode cX10_init 123 = .ok (.iload_n 1, 1) := by decide +kernel
theorem dX10_init_124 : decode cX10_init 124 = .ok (.iconst 4, 1) := by decide +kernel
theorem dX10_init_125 : decode cX10_init 125 = .ok (.if_icmp .ge 22, 3) := by decide +kernel
theorem dX10_init_128 : decode cX10_init 128 = .ok (.aload_n 0, 1) := by decide +kernel
theorem dX10_init_129 : decode cX10_init 129 = .ok (.getfield 11, 3) := by decide +kernel
theorem dX10_init_132 : decode cX10_init 132 = .ok (.iload_n 1, 1) := by decide +kernel
theorem dX10_init_133 : decode cX10_init 133 = .ok (.new 9, 3) := by decide +kernel
theorem dX10_init_136 : decode cX10_init 136 = .ok (.dup, 1) := by decide +kernel
theorem dX10_init_137 : decode cX10_init 137 = .ok (.invokespecial 74, 3) := by decide +kernel
theorem dX10_init_140 : decode cX10_init 140 = .ok (.aastore, 1) := by decide +kernel
theorem dX10_init_141 : decode cX10_init 141 = .ok (.iinc 1 1, 3) := by decide +kernel
theorem dX10_init_144 : decode cX10_init 144 = .ok (.goto (-21), 3) := by decide +kernel
theorem dX10_init_147 : decode cX10_init 147 = .ok (.return_, 1) := by decide +kernel
set_option maxRecDepth 20000 in
theorem ggX10_write_X6_size : GoodIn wsX10_write wsX6_size := goodIn_r _ [6, 7, 23, 24] (by decide +kernel) (by decide +kernel)
set_option maxRecDepth 20000 in
theorem gX10_write_X6_size : GoodIn wsX10_write (wsV RX10 75 RX6 yX6_size wsX6_size) := goodIn_app (goodIn_of _ (by decide +kernel)) ggX10_write_X6_size
set_option maxRecDepth 20000 in
theorem ggX10_write_X6_add : GoodIn wsX10_write wsX6_add := goodIn_r _ [11, 7, 12, 23, 24] (by decide +kernel) (by decide +kernel)
set_option maxRecDepth 20000 in
theorem gX10_write_X6_add : GoodIn wsX10_write (wsV RX10 79 RX6 yX6_add wsX6_add) := goodIn_app (goodIn_of _ (by decide +kernel)) ggX10_write_X6_add
theorem dX10_write_0 : decode cX10_write 0 = .ok (.iload_n 1, 1) := by decide +kernel
theorem dX10_write_1 : decode cX10_write 1 = .ok (.iconst 1, 1) := by decide +kernel
theorem dX10_write_2 : decode cX10_write 2 = .ok (.if_icmp .lt 9, 3) := by decide +kernel
theorem dX10_write_5 : decode cX10_write 5 = .ok (.iload_n 1, 1) := by decide +kernel
theorem dX10_write_6 : decode cX10_write 6 = .ok (.bipush 8, 2) := by decide +kernel
theorem dX10_write_8 : decode cX10_write 8 = .ok (.if_icmp .le 5, 3) := by decide +kernel
theorem dX10_write_11 : decode cX10_write 11 = .ok (.iconst (-1), 1) := by decide +kernel
theorem dX10_write_12 : decode cX10_write 12 = .ok (.ireturn, 1) := by decide +kernel
theorem dX10_write_13 : decode cX10_write 13 = .ok (.aload_n 0, 1) := by decide +kernel
theorem dX10_write_14 : decode cX10_write 14 = .ok (.getfield 36, 3) := by decide +kernel
theorem dX10_write_17 : decode cX10_write 17 = .ok (.invokevirtual 75, 3) := by decide +kernel
theorem dX10_write_20 : decode cX10_write 20 = .ok (.iload_n 1, 1) := by decide +kernel
theorem dX10_write_21 : decode cX10_write 21 = .ok (.iadd, 1) := by decide +kernel
theorem dX10_write_22 : decode cX10_write 22 = .ok (.bipush 120, 2) := by decide +kernel
theorem dX10_write_24 : decode cX10_write 24 = .ok (.if_icmp .le 6, 3) := by decide +kernel
theorem dX10_write_27 : decode cX10_write 27 = .ok (.bipush (-3), 2) := by decide +kernel
theorem dX10_write_29 : decode cX10_write 29 = .ok (.ireturn, 1) := by decide +kernel
theorem dX10_write_30 : decode cX10_write 30 = .ok (.iload_n 1, 1) := by decide +kernel
theorem dX10_write_31 : decode cX10_write 31 = .ok (.iconst 1, 1) := by decide +kernel
theorem dX10_write_32 : decode cX10_write 32 = .ok (.isub, 1) := by decide +kernel
theorem dX10_write_33 : decode cX10_write 33 = .ok (.istore 4, 2) := by decide +kernel
theorem dX10_write_35 : decode cX10_write 35 = .ok (.iload 4, 2) := by decide +kernel
theorem dX10_write_37 : decode cX10_write 37 = .ok (.ifCond .lt 29, 3) := by decide +kernel
theorem dX10_write_40 : decode cX10_write 40 = .ok (.aload_n 0, 1) := by decide +kernel
theorem dX10_write_41 : decode cX10_write 41 = .ok (.getfield 36, 3) := by decide +kernel
theorem dX10_write_44 : decode cX10_write 44 = .ok (.lload_n 2, 1) := by decide +kernel
theorem dX10_write_45 : decode cX10_write 45 = .ok (.bipush 8, 2) := by decide +kernel
theorem dX10_write_47 : decode cX10_write 47 = .ok (.iload 4, 2) := by decide +kernel
theorem dX10_write_49 : decode cX10_write 49 = .ok (.imul, 1) := by decide +kernel
theorem dX10_write_50 : decode cX10_write 50 = .ok (.lushr, 1) := by decide +kernel
theorem dX10_write_51 : decode cX10_write 51 = .ok (.l2i, 1) := by decide +kernel
theorem dX10_write_52 : decode cX10_write 52 = .ok (.sipush 255, 3) := by decide +kernel
theorem dX10_write_55 : decode cX10_write 55 = .ok (.iand, 1) := by decide +kernel
theorem dX10_write_56 : decode cX10_write 56 = .ok (.invokevirtual 79, 3) := by decide +kernel
theorem dX10_write_59 : decode cX10_write 59 = .ok (.pop, 1) := by decide +kernel
theorem dX10_write_60 : decode cX10_write 60 = .ok (.iinc 4 (-1), 3) := by decide +kernel
theorem dX10_write_63 : decode cX10_write 63 = .ok (.goto (-28), 3) := by decide +kernel
theorem dX10_write_66 : decode cX10_write 66 = .ok (.aload_n 0, 1) := by decide +kernel
theorem dX10_write_67 : decode cX10_write 67 = .ok (.getfield 36, 3) := by decide +kernel
theorem dX10_write_70 : decode cX10_write 70 = .ok (.invokevirtual 75, 3) := by decide +kernel
theorem dX10_write_73 : decode cX10_write 73 = .ok (.ireturn, 1) := by decide +kernel
set_option maxRecDepth 20000 in
theorem ggX10_wipe_X6_clear : GoodIn wsX10_wipe wsX6_clear := goodIn_r _ [6, 7, 18, 19] (by decide +kernel) (by decide +kernel)
set_option maxRecDepth 20000 in
theorem gX10_wipe_X6_clear : GoodIn wsX10_wipe (wsV RX10 83 RX6 yX6_clear wsX6_clear) := goodIn_app (goodIn_of _ (by decide +kernel)) ggX10_wipe_X6_clear
theorem dX10_wipe_0 : decode cX10_wipe 0 = .ok (.aload_n 0, 1) := by decide +kernel
theorem dX10_wipe_1 : decode cX10_wipe 1 = .ok (.getfield 36, 3) := by decide +kernel
theorem dX10_wipe_4 : decode cX10_wipe 4 = .ok (.invokevirtual 83, 3) := by decide +kernel
theorem dX10_wipe_7 : decode cX10_wipe 7 = .ok (.ireturn, 1) := by decide +kernel
set_option maxRecDepth 20000 in
theorem ggX10_fault_X6_size : GoodIn wsX10_fault wsX6_size := goodIn_r _ [7, 8, 69, 70] (by decide +kernel) (by decide +kernel)
set_option maxRecDepth 20000 in
theorem gX10_fault_X6_size : GoodIn wsX10_fault (wsV RX10 75 RX6 yX6_size wsX6_size) := goodIn_app (goodIn_of _ (by decide +kernel)) ggX10_fault_X6_size
set_option maxRecDepth 20000 in
theorem ggX10_fault_X1_standsAt : GoodIn wsX10_fault wsX1_standsAt := goodIn_r _ [13, 14, 15, 16, 17, 18, 12, 19, 20, 21, 22, 23, 6, 24, 8, 25, 26, 27, 28, 29, 30, 4, 5, 7, 31, 32, 33, 34, 35, 36, 37, 38, 39, 40, 41, 42, 43, 44, 45, 46, 47, 48, 49, 50, 51, 52, 53, 54, 71, 72, 73, 69, 70] (by decide +kernel) (by decide +kernel)
set_option maxRecDepth 20000 in
theorem gX10_fault_X1_standsAt : GoodIn wsX10_fault (wsV RX10 86 RX1 yX1_standsAt wsX1_standsAt) := goodIn_app (goodIn_of _ (by decide +kernel)) ggX10_fault_X1_standsAt
set_option maxRecDepth 20000 in
theorem ggX10_fault_X1_end : GoodIn wsX10_fault wsX1_end := goodIn_r _ [58, 20, 71, 72, 73] (by decide +kernel) (by decide +kernel)
set_option maxRecDepth 20000 in
theorem gX10_fault_X1_end : GoodIn wsX10_fault (wsV RX10 90 RX1 yX1_end wsX1_end) := goodIn_app (goodIn_of _ (by decide +kernel)) ggX10_fault_X1_end
theorem dX10_fault_0 : decode cX10_fault 0 = .ok (.iconst 0, 1) := by decide +kernel
theorem dX10_fault_1 : decode cX10_fault 1 = .ok (.istore_n 1, 1) := by decide +kernel
theorem dX10_fault_2 : decode cX10_fault 2 = .ok (.iconst 0, 1) := by decide +kernel
theorem dX10_fault_3 : decode cX10_fault 3 = .ok (.istore_n 2, 1) := by decide +kernel
theorem dX10_fault_4 : decode cX10_fault 4 = .ok (.iload_n 2, 1) := by decide +kernel
theorem dX10_fault_5 : decode cX10_fault 5 = .ok (.bipush 120, 2) := by decide +kernel
theorem dX10_fault_7 : decode cX10_fault 7 = .ok (.if_icmp .ge 45, 3) := by decide +kernel
theorem dX10_fault_10 : decode cX10_fault 10 = .ok (.iload_n 1, 1) := by decide +kernel
theorem dX10_fault_11 : decode cX10_fault 11 = .ok (.aload_n 0, 1) := by decide +kernel
theorem dX10_fault_12 : decode cX10_fault 12 = .ok (.getfield 36, 3) := by decide +kernel
theorem dX10_fault_15 : decode cX10_fault 15 = .ok (.invokevirtual 75, 3) := by decide +kernel
theorem dX10_fault_18 : decode cX10_fault 18 = .ok (.if_icmp .ge 34, 3) := by decide +kernel
theorem dX10_fault_21 : decode cX10_fault 21 = .ok (.aload_n 0, 1) := by decide +kernel
theorem dX10_fault_22 : decode cX10_fault 22 = .ok (.getfield 43, 3) := by decide +kernel
theorem dX10_fault_25 : decode cX10_fault 25 = .ok (.aload_n 0, 1) := by decide +kernel
theorem dX10_fault_26 : decode cX10_fault 26 = .ok (.getfield 36, 3) := by decide +kernel
theorem dX10_fault_29 : decode cX10_fault 29 = .ok (.iload_n 1, 1) := by decide +kernel
theorem dX10_fault_30 : decode cX10_fault 30 = .ok (.invokevirtual 86, 3) := by decide +kernel
theorem dX10_fault_33 : decode cX10_fault 33 = .ok (.ifCond .ne 5, 3) := by decide +kernel
theorem dX10_fault_36 : decode cX10_fault 36 = .ok (.iload_n 1, 1) := by decide +kernel
theorem dX10_fault_37 : decode cX10_fault 37 = .ok (.ireturn, 1) := by decide +kernel
theorem dX10_fault_38 : decode cX10_fault 38 = .ok (.aload_n 0, 1) := by decide +kernel
theorem dX10_fault_39 : decode cX10_fault 39 = .ok (.getfield 43, 3) := by decide +kernel
theorem dX10_fault_42 : decode cX10_fault 42 = .ok (.invokevirtual 90, 3) := by decide +kernel
theorem dX10_fault_45 : decode cX10_fault 45 = .ok (.istore_n 1, 1) := by decide +kernel
theorem dX10_fault_46 : decode cX10_fault 46 = .ok (.iinc 2 1, 3) := by decide +kernel
theorem dX10_fault_49 : decode cX10_fault 49 = .ok (.goto (-45), 3) := by decide +kernel
theorem dX10_fault_52 : decode cX10_fault 52 = .ok (.bipush (-4), 2) := by decide +kernel
theorem dX10_fault_54 : decode cX10_fault 54 = .ok (.ireturn, 1) := by decide +kernel
set_option maxRecDepth 20000 in
theorem ggX10_lay_X10_fault : GoodIn wsX10_lay wsX10_fault := goodIn_r _ [7, 1, 2, 8, 9, 10, 11, 12, 13, 14, 15, 16, 17, 18, 19, 20, 21, 22, 23, 24, 25, 26, 27, 28, 29, 30, 31, 32, 33, 34, 35, 36, 37, 38, 39, 40, 41, 42, 43, 44, 45, 46, 47, 48, 49, 50, 51, 52, 53, 54, 55, 56, 57, 58, 59, 60, 61, 62, 63, 85, 86, 87, 88, 89, 90, 91, 92, 93, 94, 95, 96, 97, 98, 99] (by decide +kernel) (by decide +kernel)
set_option maxRecDepth 20000 in
theorem gX10_lay_X10_fault : GoodIn wsX10_lay (wsV RX10 93 RX10 yX10_fault wsX10_fault) := goodIn_app (goodIn_of _ (by decide +kernel)) ggX10_lay_X10_fault
set_option maxRecDepth 20000 in
theorem ggX10_lay_X6_size : GoodIn wsX10_lay wsX6_size := goodIn_r _ [12, 13, 95, 96] (by decide +kernel) (by decide +kernel)
set_option maxRecDepth 20000 in
theorem gX10_lay_X6_size : GoodIn wsX10_lay (wsV RX10 75 RX6 yX6_size wsX6_size) := goodIn_app (goodIn_of _ (by decide +kernel)) ggX10_lay_X6_size
set_option maxRecDepth 20000 in
theorem ggX10_lay_X1_standsAt : GoodIn wsX10_lay wsX1_standsAt := goodIn_r _ [18, 19, 20, 21, 22, 23, 17, 24, 25, 26, 27, 28, 11, 29, 13, 30, 31, 32, 33, 34, 35, 9, 10, 12, 36, 37, 38, 39, 40, 41, 42, 43, 44, 45, 46, 47, 48, 49, 50, 51, 52, 53, 54, 55, 56, 57, 58, 59, 97, 98, 99, 95, 96] (by decide +kernel) (by decide +kernel)
set_option maxRecDepth 20000 in
theorem gX10_lay_X1_standsAt : GoodIn wsX10_lay (wsV RX10 86 RX1 yX1_standsAt wsX1_standsAt) := goodIn_app (goodIn_of _ (by decide +kernel)) ggX10_lay_X1_standsAt
set_option maxRecDepth 20000 in
theorem ggX10_lay_X1_register : GoodIn wsX10_lay wsX1_register := goodIn_r _ [43, 20, 30, 31, 32, 11, 33, 13, 34, 97, 98, 99, 95, 96] (by decide +kernel) (by decide +kernel)
set_option maxRecDepth 20000 in
theorem gX10_lay_X1_register : GoodIn wsX10_lay (wsV RX10 96 RX1 yX1_register wsX1_register) := goodIn_app (goodIn_of _ (by decide +kernel)) ggX10_lay_X1_register
set_option maxRecDepth 20000 in
theorem ggX10_lay_X10_registerOf : GoodIn wsX10_lay wsX10_registerOf := goodIn_r _ [68, 69, 85, 86, 87, 88, 89, 90, 91, 92, 93, 94] (by decide +kernel) (by decide +kernel)
set_option maxRecDepth 20000 in
theorem gX10_lay_X10_registerOf : GoodIn wsX10_lay (wsV RX10 99 RX10 yX10_registerOf wsX10_registerOf) := goodIn_app (goodIn_of _ (by decide +kernel)) ggX10_lay_X10_registerOf
set_option maxRecDepth 20000 in
theorem ggX10_lay_X5_become : GoodIn wsX10_lay wsX5_become := goodIn_r _ [74, 75, 76, 77, 78, 45, 46, 17, 47, 20, 30, 31, 32, 11, 33, 13, 34, 79, 80, 81, 82, 83, 84, 37, 38, 39, 100, 101, 102, 103, 104, 97, 98, 99, 95, 96] (by decide +kernel) (by decide +kernel)
set_option maxRecDepth 20000 in
theorem gX10_lay_X5_become : GoodIn wsX10_lay (wsV RX10 103 RX5 yX5_become wsX5_become) := goodIn_app (goodIn_of _ (by decide +kernel)) ggX10_lay_X5_become
set_option maxRecDepth 20000 in
theorem ggX10_lay_X1_end : GoodIn wsX10_lay wsX1_end := goodIn_r _ [63, 25, 97, 98, 99] (by decide +kernel) (by decide +kernel)
set_option maxRecDepth 20000 in
theorem gX10_lay_X1_end : GoodIn wsX10_lay (wsV RX10 90 RX1 yX1_end wsX1_end) := goodIn_app (goodIn_of _ (by decide +kernel)) ggX10_lay_X1_end
theorem dX10_lay_0 : decode cX10_lay 0 = .ok (.aload_n 0, 1) := by decide +kernel
theorem dX10_lay_1 : decode cX10_lay 1 = .ok (.invokevirtual 93, 3) := by decide +kernel
theorem dX10_lay_4 : decode cX10_lay 4 = .ok (.bipush (-4), 2) := by decide +kernel
theorem dX10_lay_6 : decode cX10_lay 6 = .ok (.if_icmp .eq 6, 3) := by decide +kernel
theorem dX10_lay_9 : decode cX10_lay 9 = .ok (.bipush (-2), 2) := by decide +kernel
theorem dX10_lay_11 : decode cX10_lay 11 = .ok (.ireturn, 1) := by decide +kernel
theorem dX10_lay_12 : decode cX10_lay 12 = .ok (.iconst 0, 1) := by decide +kernel
theorem dX10_lay_13 : decode cX10_lay 13 = .ok (.istore_n 1, 1) := by decide +kernel
theorem dX10_lay_14 : decode cX10_lay 14 = .ok (.iconst 0, 1) := by decide +kernel
theorem dX10_lay_15 : decode cX10_lay 15 = .ok (.istore_n 2, 1) := by decide +kernel
theorem dX10_lay_16 : decode cX10_lay 16 = .ok (.iload_n 1, 1) := by decide +kernel
theorem dX10_lay_17 : decode cX10_lay 17 = .ok (.bipush 120, 2) := by decide +kernel
theorem dX10_lay_19 : decode cX10_lay 19 = .ok (.if_icmp .ge 67, 3) := by decide +kernel
theorem dX10_lay_22 : decode cX10_lay 22 = .ok (.iload_n 2, 1) := by decide +kernel
theorem dX10_lay_23 : decode cX10_lay 23 = .ok (.aload_n 0, 1) := by decide +kernel
theorem dX10_lay_24 : decode cX10_lay 24 = .ok (.getfield 36, 3) := by decide +kernel
theorem dX10_lay_27 : decode cX10_lay 27 = .ok (.invokevirtual 75, 3) := by decide +kernel
theorem dX10_lay_30 : decode cX10_lay 30 = .ok (.if_icmp .ge 56, 3) := by decide +kernel
theorem dX10_lay_33 : decode cX10_lay 33 = .ok (.aload_n 0, 1) := by decide +kernel
theorem dX10_lay_34 : decode cX10_lay 34 = .ok (.getfield 43, 3) := by decide +kernel
theorem dX10_lay_37 : decode cX10_lay 37 = .ok (.aload_n 0, 1) := by decide +kernel
theorem dX10_lay_38 : decode cX10_lay 38 = .ok (.getfield 36, 3) := by decide +kernel
theorem dX10_lay_41 : decode cX10_lay 41 = .ok (.iload_n 2, 1) := by decide +kernel
theorem dX10_lay_42 : decode cX10_lay 42 = .ok (.invokevirtual 86, 3) := by decide +kernel
theorem dX10_lay_45 : decode cX10_lay 45 = .ok (.ifCond .eq 41, 3) := by decide +kernel
theorem dX10_lay_48 : decode cX10_lay 48 = .ok (.aload_n 0, 1) := by decide +kernel
theorem dX10_lay_49 : decode cX10_lay 49 = .ok (.aload_n 0, 1) := by decide +kernel
theorem dX10_lay_50 : decode cX10_lay 50 = .ok (.getfield 43, 3) := by decide +kernel
theorem dX10_lay_53 : decode cX10_lay 53 = .ok (.invokevirtual 96, 3) := by decide +kernel
theorem dX10_lay_56 : decode cX10_lay 56 = .ok (.invokevirtual 99, 3) := by decide +kernel
theorem dX10_lay_59 : decode cX10_lay 59 = .ok (.astore_n 3, 1) := by decide +kernel
theorem dX10_lay_60 : decode cX10_lay 60 = .ok (.aload_n 3, 1) := by decide +kernel
theorem dX10_lay_61 : decode cX10_lay 61 = .ok (.ifnull 11, 3) := by decide +kernel
theorem dX10_lay_64 : decode cX10_lay 64 = .ok (.aload_n 3, 1) := by decide +kernel
theorem dX10_lay_65 : decode cX10_lay 65 = .ok (.aload_n 0, 1) := by decide +kernel
theorem dX10_lay_66 : decode cX10_lay 66 = .ok (.getfield 43, 3) := by decide +kernel
theorem dX10_lay_69 : decode cX10_lay 69 = .ok (.invokevirtual 103, 3) := by decide +kernel
theorem dX10_lay_72 : decode cX10_lay 72 = .ok (.aload_n 0, 1) := by decide +kernel
theorem dX10_lay_73 : decode cX10_lay 73 = .ok (.getfield 43, 3) := by decide +kernel
theorem dX10_lay_76 : decode cX10_lay 76 = .ok (.invokevirtual 90, 3) := by decide +kernel
theorem dX10_lay_79 : decode cX10_lay 79 = .ok (.istore_n 2, 1) := by decide +kernel
theorem dX10_lay_80 : decode cX10_lay 80 = .ok (.iinc 1 1, 3) := by decide +kernel
theorem dX10_lay_83 : decode cX10_lay 83 = .ok (.goto (-67), 3) := by decide +kernel
theorem dX10_lay_86 : decode cX10_lay 86 = .ok (.iload_n 1, 1) := by decide +kernel
theorem dX10_lay_87 : decode cX10_lay 87 = .ok (.ireturn, 1) := by decide +kernel
set_option maxRecDepth 20000 in
theorem ggX10_told_X10_registerOf : GoodIn wsX10_told wsX10_registerOf := goodIn_r _ [5, 6, 23, 24, 25, 26, 27, 28, 29, 30, 31, 32] (by decide +kernel) (by decide +kernel)
set_option maxRecDepth 20000 in
theorem gX10_told_X10_registerOf : GoodIn wsX10_told (wsV RX10 99 RX10 yX10_registerOf wsX10_registerOf) := goodIn_app (goodIn_of _ (by decide +kernel)) ggX10_told_X10_registerOf
set_option maxRecDepth 20000 in
theorem ggX10_told_X6_size : GoodIn wsX10_told wsX6_size := goodIn_r _ [11, 12, 33, 34] (by decide +kernel) (by decide +kernel)
set_option maxRecDepth 20000 in
theorem gX10_told_X6_size : GoodIn wsX10_told (wsV RX10 75 RX6 yX6_size wsX6_size) := goodIn_app (goodIn_of _ (by decide +kernel)) ggX10_told_X6_size
set_option maxRecDepth 20000 in
theorem ggX10_told_X6_get : GoodIn wsX10_told wsX6_get := goodIn_r _ [16, 12, 17, 33, 34] (by decide +kernel) (by decide +kernel)
set_option maxRecDepth 20000 in
theorem gX10_told_X6_get : GoodIn wsX10_told (wsV RX10 120 RX6 yX6_get wsX6_get) := goodIn_app (goodIn_of _ (by decide +kernel)) ggX10_told_X6_get
theorem dX10_told_0 : decode cX10_told 0 = .ok (.aload_n 0, 1) := by decide +kernel
theorem dX10_told_1 : decode cX10_told 1 = .ok (.iload_n 1, 1) := by decide +kernel
theorem dX10_told_2 : decode cX10_told 2 = .ok (.invokevirtual 99, 3) := by decide +kernel
theorem dX10_told_5 : decode cX10_told 5 = .ok (.astore_n 3, 1) := by decide +kernel
theorem dX10_told_6 : decode cX10_told 6 = .ok (.aload_n 3, 1) := by decide +kernel
theorem dX10_told_7 : decode cX10_told 7 = .ok (.ifnull 13, 3) := by decide +kernel
theorem dX10_told_10 : decode cX10_told 10 = .ok (.iload_n 2, 1) := by decide +kernel
theorem dX10_told_11 : decode cX10_told 11 = .ok (.ifCond .lt 9, 3) := by decide +kernel
theorem dX10_told_14 : decode cX10_told 14 = .ok (.iload_n 2, 1) := by decide +kernel
theorem dX10_told_15 : decode cX10_told 15 = .ok (.bipush 7, 2) := by decide +kernel
theorem dX10_told_17 : decode cX10_told 17 = .ok (.if_icmp .le 5, 3) := by decide +kernel
theorem dX10_told_20 : decode cX10_told 20 = .ok (.iconst (-1), 1) := by decide +kernel
theorem dX10_told_21 : decode cX10_told 21 = .ok (.ireturn, 1) := by decide +kernel
theorem dX10_told_22 : decode cX10_told 22 = .ok (.iload_n 2, 1) := by decide +kernel
theorem dX10_told_23 : decode cX10_told 23 = .ok (.ifCond .ne 11, 3) := by decide +kernel
theorem dX10_told_26 : decode cX10_told 26 = .ok (.aload_n 3, 1) := by decide +kernel
theorem dX10_told_27 : decode cX10_told 27 = .ok (.getfield 107, 3) := by decide +kernel
theorem dX10_told_30 : decode cX10_told 30 = .ok (.getfield 111, 3) := by decide +kernel
theorem dX10_told_33 : decode cX10_told 33 = .ok (.ireturn, 1) := by decide +kernel
theorem dX10_told_34 : decode cX10_told 34 = .ok (.iload_n 2, 1) := by decide +kernel
theorem dX10_told_35 : decode cX10_told 35 = .ok (.iconst 1, 1) := by decide +kernel
theorem dX10_told_36 : decode cX10_told 36 = .ok (.if_icmp .ne 13, 3) := by decide +kernel
theorem dX10_told_39 : decode cX10_told 39 = .ok (.aload_n 3, 1) := by decide +kernel
theorem dX10_told_40 : decode cX10_told 40 = .ok (.getfield 117, 3) := by decide +kernel
theorem dX10_told_43 : decode cX10_told 43 = .ok (.invokevirtual 75, 3) := by decide +kernel
theorem dX10_told_46 : decode cX10_told 46 = .ok (.goto 13, 3) := by decide +kernel
theorem dX10_told_49 : decode cX10_told 49 = .ok (.aload_n 3, 1) := by decide +kernel
theorem dX10_told_50 : decode cX10_told 50 = .ok (.getfield 117, 3) := by decide +kernel
theorem dX10_told_53 : decode cX10_told 53 = .ok (.iload_n 2, 1) := by decide +kernel
theorem dX10_told_54 : decode cX10_told 54 = .ok (.iconst 2, 1) := by decide +kernel
theorem dX10_told_55 : decode cX10_told 55 = .ok (.isub, 1) := by decide +kernel
theorem dX10_told_56 : decode cX10_told 56 = .ok (.invokevirtual 120, 3) := by decide +kernel
theorem dX10_told_59 : decode cX10_told 59 = .ok (.ireturn, 1) := by decide +kernel
set_option maxRecDepth 20000 in
theorem ggX10_at_X10_madeRow : GoodIn wsX10_at wsX10_madeRow := goodIn_r _ [5, 6, 7, 8, 9, 4, 10, 11, 12, 13, 14, 15, 16, 17, 18, 19, 20, 21, 22, 23, 24, 25, 26, 27, 28, 29, 30, 31, 32, 33, 34, 35, 36, 37, 38, 39, 40, 41, 42, 43, 44, 45, 46, 47, 48, 49, 50, 51, 52, 53, 54, 55, 56, 57, 58, 59, 60, 61, 62, 63, 64, 65, 66, 67, 68, 69, 70, 71, 72, 73, 74, 75, 76, 77, 78, 79, 80, 81, 82, 83, 84, 85, 86, 87, 88, 89, 90, 91, 92, 93, 94, 95, 96, 97, 98, 99, 100, 108, 109, 110, 111, 112, 113, 114, 115, 116, 117, 118, 119, 120, 121, 122, 123, 124, 125, 126, 127] (by decide +kernel) (by decide +kernel)
set_option maxRecDepth 20000 in
theorem gX10_at_X10_madeRow : GoodIn wsX10_at (wsV RX10 124 RX10 yX10_madeRow wsX10_madeRow) := goodIn_app (goodIn_of _ (by decide +kernel)) ggX10_at_X10_madeRow
set_option maxRecDepth 20000 in
theorem ggX10_at_X5_numberAt : GoodIn wsX10_at wsX5_numberAt := goodIn_r _ [105, 106, 107, 108, 109, 110, 111, 112] (by decide +kernel) (by decide +kernel)
set_option maxRecDepth 20000 in
theorem gX10_at_X5_numberAt : GoodIn wsX10_at (wsV RX10 127 RX5 yX5_numberAt wsX5_numberAt) := goodIn_app (goodIn_of _ (by decide +kernel)) ggX10_at_X5_numberAt
theorem dX10_at_0 : decode cX10_at 0 = .ok (.aload_n 0, 1) := by decide +kernel
theorem dX10_at_1 : decode cX10_at 1 = .ok (.iload_n 1, 1) := by decide +kernel
theorem dX10_at_2 : decode cX10_at 2 = .ok (.invokevirtual 124, 3) := by decide +kernel
theorem dX10_at_5 : decode cX10_at 5 = .ok (.astore_n 3, 1) := by decide +kernel
theorem dX10_at_6 : decode cX10_at 6 = .ok (.aload_n 3, 1) := by decide +kernel
theorem dX10_at_7 : decode cX10_at 7 = .ok (.ifnull 14, 3) := by decide +kernel
theorem dX10_at_10 : decode cX10_at 10 = .ok (.iload_n 2, 1) := by decide +kernel
theorem dX10_at_11 : decode cX10_at 11 = .ok (.ifCond .lt 10, 3) := by decide +kernel
theorem dX10_at_14 : decode cX10_at 14 = .ok (.iload_n 2, 1) := by decide +kernel
theorem dX10_at_15 : decode cX10_at 15 = .ok (.sipush 2000, 3) := by decide +kernel
theorem dX10_at_18 : decode cX10_at 18 = .ok (.if_icmp .lt 5, 3) := by decide +kernel
theorem dX10_at_21 : decode cX10_at 21 = .ok (.iconst (-1), 1) := by decide +kernel
theorem dX10_at_22 : decode cX10_at 22 = .ok (.ireturn, 1) := by decide +kernel
theorem dX10_at_23 : decode cX10_at 23 = .ok (.aload_n 3, 1) := by decide +kernel
theorem dX10_at_24 : decode cX10_at 24 = .ok (.iload_n 2, 1) := by decide +kernel
theorem dX10_at_25 : decode cX10_at 25 = .ok (.invokevirtual 127, 3) := by decide +kernel
theorem dX10_at_28 : decode cX10_at 28 = .ok (.ireturn, 1) := by decide +kernel
set_option maxRecDepth 20000 in
theorem ggX10_first_X10_madeRow : GoodIn wsX10_first wsX10_madeRow := goodIn_r _ [5, 6, 7, 8, 9, 4, 10, 11, 12, 13, 14, 15, 16, 17, 18, 19, 20, 21, 22, 23, 24, 25, 26, 27, 28, 29, 30, 31, 32, 33, 34, 35, 36, 37, 38, 39, 40, 41, 42, 43, 44, 45, 46, 47, 48, 49, 50, 51, 52, 53, 54, 55, 56, 57, 58, 59, 60, 61, 62, 63, 64, 65, 66, 67, 68, 69, 70, 71, 72, 73, 74, 75, 76, 77, 78, 79, 80, 81, 82, 83, 84, 85, 86, 87, 88, 89, 90, 91, 92, 93, 94, 95, 96, 97, 98, 99, 100, 113, 114, 115, 116, 117, 118, 119, 120, 121, 122, 123, 124, 125, 126, 127, 128, 129, 130, 131, 132] (by decide +kernel) (by decide +kernel)
set_option maxRecDepth 20000 in
theorem gX10_first_X10_madeRow : GoodIn wsX10_first (wsV RX10 124 RX10 yX10_madeRow wsX10_madeRow) := goodIn_app (goodIn_of _ (by decide +kernel)) ggX10_first_X10_madeRow
set_option maxRecDepth 20000 in
theorem ggX10_first_X10_isNumber : GoodIn wsX10_first wsX10_isNumber := goodIn_r _ [99, 100] (by decide +kernel) (by decide +kernel)
set_option maxRecDepth 20000 in
theorem gX10_first_X10_isNumber : GoodIn wsX10_first (va_wsS RX10 130 yX10_isNumber wsX10_isNumber) := goodIn_app (goodIn_of _ (by decide +kernel)) ggX10_first_X10_isNumber
set_option maxRecDepth 20000 in
theorem ggX10_first_X5_placeOf : GoodIn wsX10_first wsX5_placeOf := goodIn_r _ [106, 107, 108, 109, 110, 105, 111, 112, 113, 114, 115, 116, 117] (by decide +kernel) (by decide +kernel)
set_option maxRecDepth 20000 in
theorem gX10_first_X5_placeOf : GoodIn wsX10_first (wsV RX10 133 RX5 yX5_placeOf wsX5_placeOf) := goodIn_app (goodIn_of _ (by decide +kernel)) ggX10_first_X5_placeOf
theorem dX10_first_0 : decode cX10_first 0 = .ok (.aload_n 0, 1) := by decide +kernel
theorem dX10_first_1 : decode cX10_first 1 = .ok (.iload_n 1, 1) := by decide +kernel
theorem dX10_first_2 : decode cX10_first 2 = .ok (.invokevirtual 124, 3) := by decide +kernel
theorem dX10_first_5 : decode cX10_first 5 = .ok (.astore_n 3, 1) := by decide +kernel
theorem dX10_first_6 : decode cX10_first 6 = .ok (.aload_n 3, 1) := by decide +kernel
theorem dX10_first_7 : decode cX10_first 7 = .ok (.ifnull 10, 3) := by decide +kernel
theorem dX10_first_10 : decode cX10_first 10 = .ok (.iload_n 2, 1) := by decide +kernel
theorem dX10_first_11 : decode cX10_first 11 = .ok (.invokestatic 130, 3) := by decide +kernel
theorem dX10_first_14 : decode cX10_first 14 = .ok (.ifCond .ne 5, 3) := by decide +kernel
theorem dX10_first_17 : decode cX10_first 17 = .ok (.iconst (-1), 1) := by decide +kernel
theorem dX10_first_18 : decode cX10_first 18 = .ok (.ireturn, 1) := by decide +kernel
theorem dX10_first_19 : decode cX10_first 19 = .ok (.aload_n 3, 1) := by decide +kernel
theorem dX10_first_20 : decode cX10_first 20 = .ok (.iload_n 2, 1) := by decide +kernel
theorem dX10_first_21 : decode cX10_first 21 = .ok (.invokevirtual 133, 3) := by decide +kernel
theorem dX10_first_24 : decode cX10_first 24 = .ok (.ireturn, 1) := by decide +kernel
set_option maxRecDepth 20000 in
theorem ggX10_often_X10_madeRow : GoodIn wsX10_often wsX10_madeRow := goodIn_r _ [5, 6, 7, 8, 9, 4, 10, 11, 12, 13, 14, 15, 16, 17, 18, 19, 20, 21, 22, 23, 24, 25, 26, 27, 28, 29, 30, 31, 32, 33, 34, 35, 36, 37, 38, 39, 40, 41, 42, 43, 44, 45, 46, 47, 48, 49, 50, 51, 52, 53, 54, 55, 56, 57, 58, 59, 60, 61, 62, 63, 64, 65, 66, 67, 68, 69, 70, 71, 72, 73, 74, 75, 76, 77, 78, 79, 80, 81, 82, 83, 84, 85, 86, 87, 88, 89, 90, 91, 92, 93, 94, 95, 96, 97, 98, 99, 100, 113, 114, 115, 116, 117, 118, 119, 120, 121, 122, 123, 124, 125, 126, 127, 128, 129, 130, 131, 132] (by decide +kernel) (by decide +kernel)
set_option maxRecDepth 20000 in
theorem gX10_often_X10_madeRow : GoodIn wsX10_often (wsV RX10 124 RX10 yX10_madeRow wsX10_madeRow) := goodIn_app (goodIn_of _ (by decide +kernel)) ggX10_often_X10_madeRow
set_option maxRecDepth 20000 in
theorem ggX10_often_X10_isNumber : GoodIn wsX10_often wsX10_isNumber := goodIn_r _ [99, 100] (by decide +kernel) (by decide +kernel)
set_option maxRecDepth 20000 in
theorem gX10_often_X10_isNumber : GoodIn wsX10_often (va_wsS RX10 130 yX10_isNumber wsX10_isNumber) := goodIn_app (goodIn_of _ (by decide +kernel)) ggX10_often_X10_isNumber
set_option maxRecDepth 20000 in
theorem ggX10_often_X5_countOf : GoodIn wsX10_often wsX5_countOf := goodIn_r _ [106, 107, 108, 109, 110, 105, 111, 112, 113, 114, 115, 116, 117] (by decide +kernel) (by decide +kernel)
set_option maxRecDepth 20000 in
theorem gX10_often_X5_countOf : GoodIn wsX10_often (wsV RX10 136 RX5 yX5_countOf wsX5_countOf) := goodIn_app (goodIn_of _ (by decide +kernel)) ggX10_often_X5_countOf
theorem dX10_often_0 : decode cX10_often 0 = .ok (.aload_n 0, 1) := by decide +kernel
theorem dX10_often_1 : decode cX10_often 1 = .ok (.iload_n 1, 1) := by decide +kernel
theorem dX10_often_2 : decode cX10_often 2 = .ok (.invokevirtual 124, 3) := by decide +kernel
theorem dX10_often_5 : decode cX10_often 5 = .ok (.astore 4, 2) := by decide +kernel
theorem dX10_often_7 : decode cX10_often 7 = .ok (.aload 4, 2) := by decide +kernel
theorem dX10_often_9 : decode cX10_often 9 = .ok (.ifnull 21, 3) := by decide +kernel
theorem dX10_often_12 : decode cX10_often 12 = .ok (.iload_n 2, 1) := by decide +kernel
theorem dX10_often_13 : decode cX10_often 13 = .ok (.invokestatic 130, 3) := by decide +kernel
theorem dX10_often_16 : decode cX10_often 16 = .ok (.ifCond .eq 14, 3) := by decide +kernel
theorem dX10_often_19 : decode cX10_often 19 = .ok (.iload_n 3, 1) := by decide +kernel
theorem dX10_often_20 : decode cX10_often 20 = .ok (.ifCond .lt 10, 3) := by decide +kernel
theorem dX10_often_23 : decode cX10_often 23 = .ok (.iload_n 3, 1) := by decide +kernel
theorem dX10_often_24 : decode cX10_often 24 = .ok (.sipush 2000, 3) := by decide +kernel
theorem dX10_often_27 : decode cX10_often 27 = .ok (.if_icmp .le 5, 3) := by decide +kernel
theorem dX10_often_30 : decode cX10_often 30 = .ok (.iconst (-1), 1) := by decide +kernel
theorem dX10_often_31 : decode cX10_often 31 = .ok (.ireturn, 1) := by decide +kernel
theorem dX10_often_32 : decode cX10_often 32 = .ok (.aload 4, 2) := by decide +kernel
theorem dX10_often_34 : decode cX10_often 34 = .ok (.iload_n 2, 1) := by decide +kernel
theorem dX10_often_35 : decode cX10_often 35 = .ok (.iload_n 3, 1) := by decide +kernel
theorem dX10_often_36 : decode cX10_often 36 = .ok (.invokevirtual 136, 3) := by decide +kernel
theorem dX10_often_39 : decode cX10_often 39 = .ok (.ireturn, 1) := by decide +kernel
set_option maxRecDepth 20000 in
theorem ggX10_run_X10_madeRow : GoodIn wsX10_run wsX10_madeRow := goodIn_r _ [5, 6, 7, 8, 9, 4, 10, 11, 12, 13, 14, 15, 16, 17, 18, 19, 20, 21, 22, 23, 24, 25, 26, 27, 28, 29, 30, 31, 32, 33, 34, 35, 36, 37, 38, 39, 40, 41, 42, 43, 44, 45, 46, 47, 48, 49, 50, 51, 52, 53, 54, 55, 56, 57, 58, 59, 60, 61, 62, 63, 64, 65, 66, 67, 68, 69, 70, 71, 72, 73, 74, 75, 76, 77, 78, 79, 80, 81, 82, 83, 84, 85, 86, 87, 88, 89, 90, 91, 92, 93, 94, 95, 96, 97, 98, 99, 100, 118, 119, 120, 121, 122, 123, 124, 125, 126, 127, 128, 129, 130, 131, 132, 133, 134, 135, 136, 137] (by decide +kernel) (by decide +kernel)
set_option maxRecDepth 20000 in
theorem gX10_run_X10_madeRow : GoodIn wsX10_run (wsV RX10 124 RX10 yX10_madeRow wsX10_madeRow) := goodIn_app (goodIn_of _ (by decide +kernel)) ggX10_run_X10_madeRow
set_option maxRecDepth 20000 in
theorem ggX10_run_X5_runStart : GoodIn wsX10_run wsX5_runStart := goodIn_r _ [105, 106, 107, 108, 109, 104, 110, 111, 112, 113, 114, 115, 118, 119, 120, 121, 122] (by decide +kernel) (by decide +kernel)
set_option maxRecDepth 20000 in
theorem gX10_run_X5_runStart : GoodIn wsX10_run (wsV RX10 140 RX5 yX5_runStart wsX5_runStart) := goodIn_app (goodIn_of _ (by decide +kernel)) ggX10_run_X5_runStart
set_option maxRecDepth 20000 in
theorem ggX10_run_X5_numberAt : GoodIn wsX10_run wsX5_numberAt := goodIn_r _ [114, 106, 115, 118, 119, 120, 121, 122] (by decide +kernel) (by decide +kernel)
set_option maxRecDepth 20000 in
theorem gX10_run_X5_numberAt : GoodIn wsX10_run (wsV RX10 127 RX5 yX5_numberAt wsX5_numberAt) := goodIn_app (goodIn_of _ (by decide +kernel)) ggX10_run_X5_numberAt
set_option maxRecDepth 20000 in
theorem ggX10_run_X5_runEnd : GoodIn wsX10_run wsX5_runEnd := goodIn_r _ [110, 111, 112, 113, 104, 114, 106, 115, 118, 119, 120, 121, 122] (by decide +kernel) (by decide +kernel)
set_option maxRecDepth 20000 in
theorem gX10_run_X5_runEnd : GoodIn wsX10_run (wsV RX10 146 RX5 yX5_runEnd wsX5_runEnd) := goodIn_app (goodIn_of _ (by decide +kernel)) ggX10_run_X5_runEnd
theorem dX10_run_0 : decode cX10_run 0 = .ok (.aload_n 0, 1) := by decide +kernel
theorem dX10_run_1 : decode cX10_run 1 = .ok (.iload_n 1, 1) := by decide +kernel
theorem dX10_run_2 : decode cX10_run 2 = .ok (.invokevirtual 124, 3) := by decide +kernel
theorem dX10_run_5 : decode cX10_run 5 = .ok (.astore 4, 2) := by decide +kernel
theorem dX10_run_7 : decode cX10_run 7 = .ok (.aload 4, 2) := by decide +kernel
theorem dX10_run_9 : decode cX10_run 9 = .ok (.ifnull 16, 3) := by decide +kernel
theorem dX10_run_12 : decode cX10_run 12 = .ok (.iload_n 2, 1) := by decide +kernel
theorem dX10_run_13 : decode cX10_run 13 = .ok (.ifCond .lt 12, 3) := by decide +kernel
theorem dX10_run_16 : decode cX10_run 16 = .ok (.iload_n 3, 1) := by decide +kernel
theorem dX10_run_17 : decode cX10_run 17 = .ok (.ifCond .lt 8, 3) := by decide +kernel
theorem dX10_run_20 : decode cX10_run 20 = .ok (.iload_n 3, 1) := by decide +kernel
theorem dX10_run_21 : decode cX10_run 21 = .ok (.iconst 2, 1) := by decide +kernel
theorem dX10_run_22 : decode cX10_run 22 = .ok (.if_icmp .le 5, 3) := by decide +kernel
theorem dX10_run_25 : decode cX10_run 25 = .ok (.iconst (-1), 1) := by decide +kernel
theorem dX10_run_26 : decode cX10_run 26 = .ok (.ireturn, 1) := by decide +kernel
theorem dX10_run_27 : decode cX10_run 27 = .ok (.aload 4, 2) := by decide +kernel
theorem dX10_run_29 : decode cX10_run 29 = .ok (.iload_n 2, 1) := by decide +kernel
theorem dX10_run_30 : decode cX10_run 30 = .ok (.invokevirtual 140, 3) := by decide +kernel
theorem dX10_run_33 : decode cX10_run 33 = .ok (.istore 5, 2) := by decide +kernel
theorem dX10_run_35 : decode cX10_run 35 = .ok (.iload 5, 2) := by decide +kernel
theorem dX10_run_37 : decode cX10_run 37 = .ok (.bipush (-4), 2) := by decide +kernel
theorem dX10_run_39 : decode cX10_run 39 = .ok (.if_icmp .eq 8, 3) := by decide +kernel
theorem dX10_run_42 : decode cX10_run 42 = .ok (.iload_n 3, 1) := by decide +kernel
theorem dX10_run_43 : decode cX10_run 43 = .ok (.iconst 2, 1) := by decide +kernel
theorem dX10_run_44 : decode cX10_run 44 = .ok (.if_icmp .ne 6, 3) := by decide +kernel
theorem dX10_run_47 : decode cX10_run 47 = .ok (.iload 5, 2) := by decide +kernel
theorem dX10_run_49 : decode cX10_run 49 = .ok (.ireturn, 1) := by decide +kernel
theorem dX10_run_50 : decode cX10_run 50 = .ok (.iload_n 3, 1) := by decide +kernel
theorem dX10_run_51 : decode cX10_run 51 = .ok (.ifCond .ne 13, 3) := by decide +kernel
theorem dX10_run_54 : decode cX10_run 54 = .ok (.aload 4, 2) := by decide +kernel
theorem dX10_run_56 : decode cX10_run 56 = .ok (.iload 5, 2) := by decide +kernel
theorem dX10_run_58 : decode cX10_run 58 = .ok (.invokevirtual 127, 3) := by decide +kernel
theorem dX10_run_61 : decode cX10_run 61 = .ok (.goto 18, 3) := by decide +kernel
theorem dX10_run_64 : decode cX10_run 64 = .ok (.aload 4, 2) := by decide +kernel
theorem dX10_run_66 : decode cX10_run 66 = .ok (.iload 5, 2) := by decide +kernel
theorem dX10_run_68 : decode cX10_run 68 = .ok (.aload 4, 2) := by decide +kernel
theorem dX10_run_70 : decode cX10_run 70 = .ok (.getfield 143, 3) := by decide +kernel
theorem dX10_run_73 : decode cX10_run 73 = .ok (.invokevirtual 146, 3) := by decide +kernel
theorem dX10_run_76 : decode cX10_run 76 = .ok (.iload 5, 2) := by decide +kernel
theorem dX10_run_78 : decode cX10_run 78 = .ok (.isub, 1) := by decide +kernel
theorem dX10_run_79 : decode cX10_run 79 = .ok (.ireturn, 1) := by decide +kernel
set_option maxRecDepth 20000 in
theorem ggX10_most_X10_madeRow : GoodIn wsX10_most wsX10_madeRow := goodIn_r _ [6, 7, 8, 9, 10, 5, 11, 12, 13, 14, 15, 16, 17, 18, 19, 20, 21, 22, 23, 24, 25, 26, 27, 28, 29, 30, 31, 32, 33, 34, 35, 36, 37, 38, 39, 40, 41, 42, 43, 44, 45, 46, 47, 48, 49, 50, 51, 52, 53, 54, 55, 56, 57, 58, 59, 60, 61, 62, 63, 64, 65, 66, 67, 68, 69, 70, 71, 72, 73, 74, 75, 76, 77, 78, 79, 80, 81, 82, 83, 84, 85, 86, 87, 88, 89, 90, 91, 92, 93, 94, 95, 96, 97, 98, 99, 100, 101, 146, 147, 148, 149, 150, 136, 137, 138, 139, 140, 141, 142, 143, 144, 145, 151, 152, 153, 154, 155] (by decide +kernel) (by decide +kernel)
set_option maxRecDepth 20000 in
theorem gX10_most_X10_madeRow : GoodIn wsX10_most (wsV RX10 124 RX10 yX10_madeRow wsX10_madeRow) := goodIn_app (goodIn_of _ (by decide +kernel)) ggX10_most_X10_madeRow
set_option maxRecDepth 20000 in
theorem ggX10_most_X5_longestRun : GoodIn wsX10_most wsX5_longestRun := goodIn_r _ [106, 107, 108, 109, 69, 110, 111, 68, 70, 112, 113, 114, 105, 115, 116, 117, 118, 119, 120, 146, 147, 148, 149, 150] (by decide +kernel) (by decide +kernel)
set_option maxRecDepth 20000 in
theorem gX10_most_X5_longestRun : GoodIn wsX10_most (wsV RX10 149 RX5 yX5_longestRun wsX5_longestRun) := goodIn_app (goodIn_of _ (by decide +kernel)) ggX10_most_X5_longestRun
set_option maxRecDepth 20000 in
theorem ggX10_most_X5_unlike : GoodIn wsX10_most wsX5_unlike := goodIn_r _ [124, 107, 125, 21, 22, 23, 24, 25, 26, 27, 28, 29, 116, 117, 118, 105, 119, 120, 126, 56, 57, 58, 127, 60, 61, 62, 146, 147, 148, 149, 150, 153] (by decide +kernel) (by decide +kernel)
set_option maxRecDepth 20000 in
theorem gX10_most_X5_unlike : GoodIn wsX10_most (wsV RX10 152 RX5 yX5_unlike wsX5_unlike) := goodIn_app (goodIn_of _ (by decide +kernel)) ggX10_most_X5_unlike
set_option maxRecDepth 20000 in
theorem ggX10_most_X5_greatest : GoodIn wsX10_most wsX5_greatest := goodIn_r _ [131, 107, 111, 68, 69, 70, 116, 117, 118, 105, 119, 120, 146, 147, 148, 149, 150] (by decide +kernel) (by decide +kernel)
set_option maxRecDepth 20000 in
theorem gX10_most_X5_greatest : GoodIn wsX10_most (wsV RX10 156 RX5 yX5_greatest wsX5_greatest) := goodIn_app (goodIn_of _ (by decide +kernel)) ggX10_most_X5_greatest
set_option maxRecDepth 20000 in
theorem ggX10_most_X5_placeOf : GoodIn wsX10_most wsX5_placeOf := goodIn_r _ [135, 107, 116, 117, 118, 105, 119, 120, 146, 147, 148, 149, 150] (by decide +kernel) (by decide +kernel)
set_option maxRecDepth 20000 in
theorem gX10_most_X5_placeOf : GoodIn wsX10_most (wsV RX10 133 RX5 yX5_placeOf wsX5_placeOf) := goodIn_app (goodIn_of _ (by decide +kernel)) ggX10_most_X5_placeOf
theorem dX10_most_0 : decode cX10_most 0 = .ok (.aload_n 0, 1) := by decide +kernel
theorem dX10_most_1 : decode cX10_most 1 = .ok (.iload_n 1, 1) := by decide +kernel
theorem dX10_most_2 : decode cX10_most 2 = .ok (.invokevirtual 124, 3) := by decide +kernel
theorem dX10_most_5 : decode cX10_most 5 = .ok (.astore 4, 2) := by decide +kernel
theorem dX10_most_7 : decode cX10_most 7 = .ok (.aload 4, 2) := by decide +kernel
theorem dX10_most_9 : decode cX10_most 9 = .ok (.ifnull 24, 3) := by decide +kernel
theorem dX10_most_12 : decode cX10_most 12 = .ok (.iload_n 2, 1) := by decide +kernel
theorem dX10_most_13 : decode cX10_most 13 = .ok (.iconst 1, 1) := by decide +kernel
theorem dX10_most_14 : decode cX10_most 14 = .ok (.if_icmp .lt 19, 3) := by decide +kernel
theorem dX10_most_17 : decode cX10_most 17 = .ok (.iload_n 2, 1) := by decide +kernel
theorem dX10_most_18 : decode cX10_most 18 = .ok (.sipush 2000, 3) := by decide +kernel
theorem dX10_most_21 : decode cX10_most 21 = .ok (.if_icmp .gt 12, 3) := by decide +kernel
theorem dX10_most_24 : decode cX10_most 24 = .ok (.iload_n 3, 1) := by decide +kernel
theorem dX10_most_25 : decode cX10_most 25 = .ok (.ifCond .lt 8, 3) := by decide +kernel
theorem dX10_most_28 : decode cX10_most 28 = .ok (.iload_n 3, 1) := by decide +kernel
theorem dX10_most_29 : decode cX10_most 29 = .ok (.iconst 3, 1) := by decide +kernel
theorem dX10_most_30 : decode cX10_most 30 = .ok (.if_icmp .le 5, 3) := by decide +kernel
theorem dX10_most_33 : decode cX10_most 33 = .ok (.iconst (-1), 1) := by decide +kernel
theorem dX10_most_34 : decode cX10_most 34 = .ok (.ireturn, 1) := by decide +kernel
theorem dX10_most_35 : decode cX10_most 35 = .ok (.iload_n 3, 1) := by decide +kernel
theorem dX10_most_36 : decode cX10_most 36 = .ok (.iconst 2, 1) := by decide +kernel
theorem dX10_most_37 : decode cX10_most 37 = .ok (.if_icmp .ne 10, 3) := by decide +kernel
theorem dX10_most_40 : decode cX10_most 40 = .ok (.aload 4, 2) := by decide +kernel
theorem dX10_most_42 : decode cX10_most 42 = .ok (.iload_n 2, 1) := by decide +kernel
theorem dX10_most_43 : decode cX10_most 43 = .ok (.invokevirtual 149, 3) := by decide +kernel
theorem dX10_most_46 : decode cX10_most 46 = .ok (.ireturn, 1) := by decide +kernel
theorem dX10_most_47 : decode cX10_most 47 = .ok (.iload_n 3, 1) := by decide +kernel
theorem dX10_most_48 : decode cX10_most 48 = .ok (.iconst 3, 1) := by decide +kernel
theorem dX10_most_49 : decode cX10_most 49 = .ok (.if_icmp .ne 14, 3) := by decide +kernel
theorem dX10_most_52 : decode cX10_most 52 = .ok (.aload 4, 2) := by decide +kernel
theorem dX10_most_54 : decode cX10_most 54 = .ok (.iload_n 2, 1) := by decide +kernel
theorem dX10_most_55 : decode cX10_most 55 = .ok (.aload_n 0, 1) := by decide +kernel
theorem dX10_most_56 : decode cX10_most 56 = .ok (.getfield 18, 3) := by decide +kernel
theorem dX10_most_59 : decode cX10_most 59 = .ok (.invokevirtual 152, 3) := by decide +kernel
theorem dX10_most_62 : decode cX10_most 62 = .ok (.ireturn, 1) := by decide +kernel
theorem dX10_most_63 : decode cX10_most 63 = .ok (.aload 4, 2) := by decide +kernel
theorem dX10_most_65 : decode cX10_most 65 = .ok (.iload_n 2, 1) := by decide +kernel
theorem dX10_most_66 : decode cX10_most 66 = .ok (.invokevirtual 156, 3) := by decide +kernel
theorem dX10_most_69 : decode cX10_most 69 = .ok (.istore 5, 2) := by decide +kernel
theorem dX10_most_71 : decode cX10_most 71 = .ok (.iload_n 3, 1) := by decide +kernel
theorem dX10_most_72 : decode cX10_most 72 = .ok (.ifCond .ne 8, 3) := by decide +kernel
theorem dX10_most_75 : decode cX10_most 75 = .ok (.iload 5, 2) := by decide +kernel
theorem dX10_most_77 : decode cX10_most 77 = .ok (.goto 10, 3) := by decide +kernel
theorem dX10_most_80 : decode cX10_most 80 = .ok (.aload 4, 2) := by decide +kernel
theorem dX10_most_82 : decode cX10_most 82 = .ok (.iload 5, 2) := by decide +kernel
theorem dX10_most_84 : decode cX10_most 84 = .ok (.invokevirtual 133, 3) := by decide +kernel
theorem dX10_most_87 : decode cX10_most 87 = .ok (.ireturn, 1) := by decide +kernel
set_option maxRecDepth 20000 in
theorem ggX10_around_X10_madeRow : GoodIn wsX10_around wsX10_madeRow := goodIn_r _ [5, 6, 7, 8, 9, 4, 10, 11, 12, 13, 14, 15, 16, 17, 18, 19, 20, 21, 22, 23, 24, 25, 26, 27, 28, 29, 30, 31, 32, 33, 34, 35, 36, 37, 38, 39, 40, 41, 42, 43, 44, 45, 46, 47, 48, 49, 50, 51, 52, 53, 54, 55, 56, 57, 58, 59, 60, 61, 62, 63, 64, 65, 66, 67, 68, 69, 70, 71, 72, 73, 74, 75, 76, 77, 78, 79, 80, 81, 82, 83, 84, 85, 86, 87, 88, 89, 90, 91, 92, 93, 94, 95, 96, 97, 98, 99, 100, 118, 119, 120, 121, 122, 123, 124, 125, 126, 127, 128, 129, 130, 131, 132, 133, 134, 135, 136, 137] (by decide +kernel) (by decide +kernel)
set_option maxRecDepth 20000 in
theorem gX10_around_X10_madeRow : GoodIn wsX10_around (wsV RX10 124 RX10 yX10_madeRow wsX10_madeRow) := goodIn_app (goodIn_of _ (by decide +kernel)) ggX10_around_X10_madeRow
set_option maxRecDepth 20000 in
theorem ggX10_around_X5_period : GoodIn wsX10_around wsX5_period := goodIn_r _ [105, 106, 107, 108, 109, 104, 110, 111, 67, 68, 69, 112, 113, 114, 115, 116, 118, 119, 120, 121, 122] (by decide +kernel) (by decide +kernel)
set_option maxRecDepth 20000 in
theorem gX10_around_X5_period : GoodIn wsX10_around (wsV RX10 159 RX5 yX5_period wsX5_period) := goodIn_app (goodIn_of _ (by decide +kernel)) ggX10_around_X5_period
set_option maxRecDepth 20000 in
theorem ggX10_around_X5_tail : GoodIn wsX10_around wsX5_tail := goodIn_r _ [110, 106, 111, 67, 68, 69, 112, 113, 114, 104, 115, 116, 118, 119, 120, 121, 122] (by decide +kernel) (by decide +kernel)
set_option maxRecDepth 20000 in
theorem gX10_around_X5_tail : GoodIn wsX10_around (wsV RX10 162 RX5 yX5_tail wsX5_tail) := goodIn_app (goodIn_of _ (by decide +kernel)) ggX10_around_X5_tail
theorem dX10_around_0 : decode cX10_around 0 = .ok (.aload_n 0, 1) := by decide +kernel
theorem dX10_around_1 : decode cX10_around 1 = .ok (.iload_n 1, 1) := by decide +kernel
theorem dX10_around_2 : decode cX10_around 2 = .ok (.invokevirtual 124, 3) := by decide +kernel
theorem dX10_around_5 : decode cX10_around 5 = .ok (.astore_n 3, 1) := by decide +kernel
theorem dX10_around_6 : decode cX10_around 6 = .ok (.aload_n 3, 1) := by decide +kernel
theorem dX10_around_7 : decode cX10_around 7 = .ok (.ifnull 12, 3) := by decide +kernel
theorem dX10_around_10 : decode cX10_around 10 = .ok (.iload_n 2, 1) := by decide +kernel
theorem dX10_around_11 : decode cX10_around 11 = .ok (.ifCond .lt 8, 3) := by decide +kernel
theorem dX10_around_14 : decode cX10_around 14 = .ok (.iload_n 2, 1) := by decide +kernel
theorem dX10_around_15 : decode cX10_around 15 = .ok (.iconst 1, 1) := by decide +kernel
theorem dX10_around_16 : decode cX10_around 16 = .ok (.if_icmp .le 5, 3) := by decide +kernel
theorem dX10_around_19 : decode cX10_around 19 = .ok (.iconst (-1), 1) := by decide +kernel
theorem dX10_around_20 : decode cX10_around 20 = .ok (.ireturn, 1) := by decide +kernel
theorem dX10_around_21 : decode cX10_around 21 = .ok (.aload_n 3, 1) := by decide +kernel
theorem dX10_around_22 : decode cX10_around 22 = .ok (.invokevirtual 159, 3) := by decide +kernel
theorem dX10_around_25 : decode cX10_around 25 = .ok (.istore 4, 2) := by decide +kernel
theorem dX10_around_27 : decode cX10_around 27 = .ok (.iload 4, 2) := by decide +kernel
theorem dX10_around_29 : decode cX10_around 29 = .ok (.bipush (-4), 2) := by decide +kernel
theorem dX10_around_31 : decode cX10_around 31 = .ok (.if_icmp .eq 7, 3) := by decide +kernel
theorem dX10_around_34 : decode cX10_around 34 = .ok (.iload_n 2, 1) := by decide +kernel
theorem dX10_around_35 : decode cX10_around 35 = .ok (.ifCond .ne 8, 3) := by decide +kernel
theorem dX10_around_38 : decode cX10_around 38 = .ok (.iload 4, 2) := by decide +kernel
theorem dX10_around_40 : decode cX10_around 40 = .ok (.goto 9, 3) := by decide +kernel
theorem dX10_around_43 : decode cX10_around 43 = .ok (.aload_n 3, 1) := by decide +kernel
theorem dX10_around_44 : decode cX10_around 44 = .ok (.iload 4, 2) := by decide +kernel
theorem dX10_around_46 : decode cX10_around 46 = .ok (.invokevirtual 162, 3) := by decide +kernel
theorem dX10_around_49 : decode cX10_around 49 = .ok (.ireturn, 1) := by decide +kernel
set_option maxRecDepth 20000 in
theorem ggX10_number_X10_isNumber : GoodIn wsX10_number wsX10_isNumber := goodIn_r _ [5, 6] (by decide +kernel) (by decide +kernel)
set_option maxRecDepth 20000 in
theorem gX10_number_X10_isNumber : GoodIn wsX10_number (va_wsS RX10 130 yX10_isNumber wsX10_isNumber) := goodIn_app (goodIn_of _ (by decide +kernel)) ggX10_number_X10_isNumber
set_option maxRecDepth 20000 in
theorem ggX10_number_X6_add : GoodIn wsX10_number wsX6_add := goodIn_r _ [11, 12, 13, 28, 29] (by decide +kernel) (by decide +kernel)
set_option maxRecDepth 20000 in
theorem gX10_number_X6_add : GoodIn wsX10_number (wsV RX10 79 RX6 yX6_add wsX6_add) := goodIn_app (goodIn_of _ (by decide +kernel)) ggX10_number_X6_add
set_option maxRecDepth 20000 in
theorem ggX10_number_X6_size : GoodIn wsX10_number wsX6_size := goodIn_r _ [17, 12, 28, 29] (by decide +kernel) (by decide +kernel)
set_option maxRecDepth 20000 in
theorem gX10_number_X6_size : GoodIn wsX10_number (wsV RX10 75 RX6 yX6_size wsX6_size) := goodIn_app (goodIn_of _ (by decide +kernel)) ggX10_number_X6_size
theorem dX10_number_0 : decode cX10_number 0 = .ok (.iload_n 1, 1) := by decide +kernel
theorem dX10_number_1 : decode cX10_number 1 = .ok (.invokestatic 130, 3) := by decide +kernel
theorem dX10_number_4 : decode cX10_number 4 = .ok (.ifCond .ne 5, 3) := by decide +kernel
theorem dX10_number_7 : decode cX10_number 7 = .ok (.iconst (-1), 1) := by decide +kernel
theorem dX10_number_8 : decode cX10_number 8 = .ok (.ireturn, 1) := by decide +kernel
theorem dX10_number_9 : decode cX10_number 9 = .ok (.aload_n 0, 1) := by decide +kernel
theorem dX10_number_10 : decode cX10_number 10 = .ok (.getfield 47, 3) := by decide +kernel
theorem dX10_number_13 : decode cX10_number 13 = .ok (.iload_n 1, 1) := by decide +kernel
theorem dX10_number_14 : decode cX10_number 14 = .ok (.invokevirtual 79, 3) := by decide +kernel
theorem dX10_number_17 : decode cX10_number 17 = .ok (.ifCond .eq 13, 3) := by decide +kernel
theorem dX10_number_20 : decode cX10_number 20 = .ok (.aload_n 0, 1) := by decide +kernel
theorem dX10_number_21 : decode cX10_number 21 = .ok (.getfield 47, 3) := by decide +kernel
theorem dX10_number_24 : decode cX10_number 24 = .ok (.invokevirtual 75, 3) := by decide +kernel
theorem dX10_number_27 : decode cX10_number 27 = .ok (.goto 5, 3) := by decide +kernel
theorem dX10_number_30 : decode cX10_number 30 = .ok (.bipush (-3), 2) := by decide +kernel
theorem dX10_number_32 : decode cX10_number 32 = .ok (.ireturn, 1) := by decide +kernel
set_option maxRecDepth 20000 in
theorem ggX10_noNumbers_X6_clear : GoodIn wsX10_noNumbers wsX6_clear := goodIn_r _ [6, 7, 18, 19] (by decide +kernel) (by decide +kernel)
set_option maxRecDepth 20000 in
theorem gX10_noNumbers_X6_clear : GoodIn wsX10_noNumbers (wsV RX10 83 RX6 yX6_clear wsX6_clear) := goodIn_app (goodIn_of _ (by decide +kernel)) ggX10_noNumbers_X6_clear
theorem dX10_noNumbers_0 : decode cX10_noNumbers 0 = .ok (.aload_n 0, 1) := by decide +kernel
theorem dX10_noNumbers_1 : decode cX10_noNumbers 1 = .ok (.getfield 47, 3) := by decide +kernel
theorem dX10_noNumbers_4 : decode cX10_noNumbers 4 = .ok (.invokevirtual 83, 3) := by decide +kernel
theorem dX10_noNumbers_7 : decode cX10_noNumbers 7 = .ok (.ireturn, 1) := by decide +kernel
set_option maxRecDepth 20000 in
theorem ggX10_breaks_X10_madeRow : GoodIn wsX10_breaks wsX10_madeRow := goodIn_r _ [6, 7, 8, 9, 10, 5, 11, 12, 13, 14, 15, 16, 17, 18, 19, 20, 21, 22, 23, 24, 25, 26, 27, 28, 29, 30, 31, 32, 33, 34, 35, 36, 37, 38, 39, 40, 41, 42, 43, 44, 45, 46, 47, 48, 49, 50, 51, 52, 53, 54, 55, 56, 57, 58, 59, 60, 61, 62, 63, 64, 65, 66, 67, 68, 69, 70, 71, 72, 73, 74, 75, 76, 77, 78, 79, 80, 81, 82, 83, 84, 85, 86, 87, 88, 89, 90, 91, 92, 93, 94, 95, 96, 97, 98, 99, 100, 101, 121, 122, 123, 124, 125, 111, 112, 113, 114, 115, 116, 117, 118, 119, 120, 126, 127, 128, 129, 130] (by decide +kernel) (by decide +kernel)
set_option maxRecDepth 20000 in
theorem gX10_breaks_X10_madeRow : GoodIn wsX10_breaks (wsV RX10 124 RX10 yX10_madeRow wsX10_madeRow) := goodIn_app (goodIn_of _ (by decide +kernel)) ggX10_breaks_X10_madeRow
set_option maxRecDepth 20000 in
theorem ggX10_breaks_X6_size : GoodIn wsX10_breaks wsX6_size := goodIn_r _ [92, 93, 129, 130] (by decide +kernel) (by decide +kernel)
set_option maxRecDepth 20000 in
theorem gX10_breaks_X6_size : GoodIn wsX10_breaks (wsV RX10 75 RX6 yX6_size wsX6_size) := goodIn_app (goodIn_of _ (by decide +kernel)) ggX10_breaks_X6_size
set_option maxRecDepth 20000 in
theorem ggX10_breaks_X5_numberAt : GoodIn wsX10_breaks wsX5_numberAt := goodIn_r _ [107, 108, 109, 121, 122, 123, 124, 125] (by decide +kernel) (by decide +kernel)
set_option maxRecDepth 20000 in
theorem gX10_breaks_X5_numberAt : GoodIn wsX10_breaks (wsV RX10 127 RX5 yX5_numberAt wsX5_numberAt) := goodIn_app (goodIn_of _ (by decide +kernel)) ggX10_breaks_X5_numberAt
set_option maxRecDepth 20000 in
theorem ggX10_breaks_X6_get : GoodIn wsX10_breaks wsX6_get := goodIn_r _ [97, 93, 98, 129, 130] (by decide +kernel) (by decide +kernel)
set_option maxRecDepth 20000 in
theorem gX10_breaks_X6_get : GoodIn wsX10_breaks (wsV RX10 120 RX6 yX6_get wsX6_get) := goodIn_app (goodIn_of _ (by decide +kernel)) ggX10_breaks_X6_get
theorem dX10_breaks_0 : decode cX10_breaks 0 = .ok (.aload_n 0, 1) := by decide +kernel
theorem dX10_breaks_1 : decode cX10_breaks 1 = .ok (.iload_n 1, 1) := by decide +kernel
theorem dX10_breaks_2 : decode cX10_breaks 2 = .ok (.invokevirtual 124, 3) := by decide +kernel
theorem dX10_breaks_5 : decode cX10_breaks 5 = .ok (.astore_n 2, 1) := by decide +kernel
theorem dX10_breaks_6 : decode cX10_breaks 6 = .ok (.aload_n 2, 1) := by decide +kernel
theorem dX10_breaks_7 : decode cX10_breaks 7 = .ok (.ifnonnull 5, 3) := by decide +kernel
theorem dX10_breaks_10 : decode cX10_breaks 10 = .ok (.iconst (-1), 1) := by decide +kernel
theorem dX10_breaks_11 : decode cX10_breaks 11 = .ok (.ireturn, 1) := by decide +kernel
theorem dX10_breaks_12 : decode cX10_breaks 12 = .ok (.iconst 0, 1) := by decide +kernel
theorem dX10_breaks_13 : decode cX10_breaks 13 = .ok (.istore_n 3, 1) := by decide +kernel
theorem dX10_breaks_14 : decode cX10_breaks 14 = .ok (.iload_n 3, 1) := by decide +kernel
theorem dX10_breaks_15 : decode cX10_breaks 15 = .ok (.aload_n 0, 1) := by decide +kernel
theorem dX10_breaks_16 : decode cX10_breaks 16 = .ok (.getfield 47, 3) := by decide +kernel
theorem dX10_breaks_19 : decode cX10_breaks 19 = .ok (.invokevirtual 75, 3) := by decide +kernel
theorem dX10_breaks_22 : decode cX10_breaks 22 = .ok (.if_icmp .ge 27, 3) := by decide +kernel
theorem dX10_breaks_25 : decode cX10_breaks 25 = .ok (.aload_n 2, 1) := by decide +kernel
theorem dX10_breaks_26 : decode cX10_breaks 26 = .ok (.iload_n 3, 1) := by decide +kernel
theorem dX10_breaks_27 : decode cX10_breaks 27 = .ok (.invokevirtual 127, 3) := by decide +kernel
theorem dX10_breaks_30 : decode cX10_breaks 30 = .ok (.aload_n 0, 1) := by decide +kernel
theorem dX10_breaks_31 : decode cX10_breaks 31 = .ok (.getfield 47, 3) := by decide +kernel
theorem dX10_breaks_34 : decode cX10_breaks 34 = .ok (.iload_n 3, 1) := by decide +kernel
theorem dX10_breaks_35 : decode cX10_breaks 35 = .ok (.invokevirtual 120, 3) := by decide +kernel
theorem dX10_breaks_38 : decode cX10_breaks 38 = .ok (.if_icmp .eq 5, 3) := by decide +kernel
theorem dX10_breaks_41 : decode cX10_breaks 41 = .ok (.iload_n 3, 1) := by decide +kernel
theorem dX10_breaks_42 : decode cX10_breaks 42 = .ok (.ireturn, 1) := by decide +kernel
theorem dX10_breaks_43 : decode cX10_breaks 43 = .ok (.iinc 3 1, 3) := by decide +kernel
theorem dX10_breaks_46 : decode cX10_breaks 46 = .ok (.goto (-32), 3) := by decide +kernel
theorem dX10_breaks_49 : decode cX10_breaks 49 = .ok (.bipush (-4), 2) := by decide +kernel
theorem dX10_breaks_51 : decode cX10_breaks 51 = .ok (.ireturn, 1) := by decide +kernel
set_option maxRecDepth 20000 in
theorem ggX10_may_X10_breaks : GoodIn wsX10_may wsX10_breaks := goodIn_r _ [5, 6, 7, 8, 9, 4, 10, 11, 12, 13, 14, 15, 16, 17, 18, 19, 20, 21, 22, 23, 24, 25, 26, 27, 28, 29, 30, 31, 32, 33, 34, 35, 36, 37, 38, 39, 40, 41, 42, 43, 44, 45, 46, 47, 48, 49, 50, 51, 52, 53, 54, 55, 56, 57, 58, 59, 60, 61, 62, 63, 64, 65, 66, 67, 68, 69, 70, 71, 72, 73, 74, 75, 76, 77, 78, 79, 80, 81, 82, 83, 84, 85, 86, 87, 88, 89, 90, 91, 92, 93, 94, 95, 96, 97, 98, 99, 100, 101, 102, 103, 104, 105, 106, 107, 108, 109, 110, 111, 112, 113, 114, 115, 116, 117, 118, 119, 120, 121, 122, 123, 124, 125, 126, 127, 128, 129, 130, 131, 132, 133, 134] (by decide +kernel) (by decide +kernel)
set_option maxRecDepth 20000 in
theorem gX10_may_X10_breaks : GoodIn wsX10_may (wsV RX10 165 RX10 yX10_breaks wsX10_breaks) := goodIn_app (goodIn_of _ (by decide +kernel)) ggX10_may_X10_breaks
theorem dX10_may_0 : decode cX10_may 0 = .ok (.iconst 0, 1) := by decide +kernel
theorem dX10_may_1 : decode cX10_may 1 = .ok (.istore_n 1, 1) := by decide +kernel
theorem dX10_may_2 : decode cX10_may 2 = .ok (.iconst 0, 1) := by decide +kernel
theorem dX10_may_3 : decode cX10_may 3 = .ok (.istore_n 2, 1) := by decide +kernel
theorem dX10_may_4 : decode cX10_may 4 = .ok (.iload_n 2, 1) := by decide +kernel
theorem dX10_may_5 : decode cX10_may 5 = .ok (.iconst 4, 1) := by decide +kernel
theorem dX10_may_6 : decode cX10_may 6 = .ok (.if_icmp .ge 25, 3) := by decide +kernel
theorem dX10_may_9 : decode cX10_may 9 = .ok (.aload_n 0, 1) := by decide +kernel
theorem dX10_may_10 : decode cX10_may 10 = .ok (.iload_n 2, 1) := by decide +kernel
theorem dX10_may_11 : decode cX10_may 11 = .ok (.invokevirtual 165, 3) := by decide +kernel
theorem dX10_may_14 : decode cX10_may 14 = .ok (.bipush (-4), 2) := by decide +kernel
theorem dX10_may_16 : decode cX10_may 16 = .ok (.if_icmp .ne 9, 3) := by decide +kernel
theorem dX10_may_19 : decode cX10_may 19 = .ok (.iload_n 1, 1) := by decide +kernel
theorem dX10_may_20 : decode cX10_may 20 = .ok (.iconst 1, 1) := by decide +kernel
theorem dX10_may_21 : decode cX10_may 21 = .ok (.iload_n 2, 1) := by decide +kernel
theorem dX10_may_22 : decode cX10_may 22 = .ok (.ishl, 1) := by decide +kernel
theorem dX10_may_23 : decode cX10_may 23 = .ok (.ior, 1) := by decide +kernel
theorem dX10_may_24 : decode cX10_may 24 = .ok (.istore_n 1, 1) := by decide +kernel
theorem dX10_may_25 : decode cX10_may 25 = .ok (.iinc 2 1, 3) := by decide +kernel
theorem dX10_may_28 : decode cX10_may 28 = .ok (.goto (-24), 3) := by decide +kernel
theorem dX10_may_31 : decode cX10_may 31 = .ok (.iload_n 1, 1) := by decide +kernel
theorem dX10_may_32 : decode cX10_may 32 = .ok (.ireturn, 1) := by decide +kernel
set_option maxRecDepth 20000 in
theorem ggX10_figure_X6_add : GoodIn wsX10_figure wsX6_add := goodIn_r _ [6, 7, 8, 23, 24] (by decide +kernel) (by decide +kernel)
set_option maxRecDepth 20000 in
theorem gX10_figure_X6_add : GoodIn wsX10_figure (wsV RX10 79 RX6 yX6_add wsX6_add) := goodIn_app (goodIn_of _ (by decide +kernel)) ggX10_figure_X6_add
set_option maxRecDepth 20000 in
theorem ggX10_figure_X6_size : GoodIn wsX10_figure wsX6_size := goodIn_r _ [12, 7, 23, 24] (by decide +kernel) (by decide +kernel)
set_option maxRecDepth 20000 in
theorem gX10_figure_X6_size : GoodIn wsX10_figure (wsV RX10 75 RX6 yX6_size wsX6_size) := goodIn_app (goodIn_of _ (by decide +kernel)) ggX10_figure_X6_size
theorem dX10_figure_0 : decode cX10_figure 0 = .ok (.iload_n 1, 1) := by decide +kernel
theorem dX10_figure_1 : decode cX10_figure 1 = .ok (.iconst 1, 1) := by decide +kernel
theorem dX10_figure_2 : decode cX10_figure 2 = .ok (.if_icmp .lt 9, 3) := by decide +kernel
theorem dX10_figure_5 : decode cX10_figure 5 = .ok (.iload_n 1, 1) := by decide +kernel
theorem dX10_figure_6 : decode cX10_figure 6 = .ok (.bipush 9, 2) := by decide +kernel
theorem dX10_figure_8 : decode cX10_figure 8 = .ok (.if_icmp .le 5, 3) := by decide +kernel
theorem dX10_figure_11 : decode cX10_figure 11 = .ok (.iconst (-1), 1) := by decide +kernel
theorem dX10_figure_12 : decode cX10_figure 12 = .ok (.ireturn, 1) := by decide +kernel
theorem dX10_figure_13 : decode cX10_figure 13 = .ok (.aload_n 0, 1) := by decide +kernel
theorem dX10_figure_14 : decode cX10_figure 14 = .ok (.getfield 50, 3) := by decide +kernel
theorem dX10_figure_17 : decode cX10_figure 17 = .ok (.iload_n 1, 1) := by decide +kernel
theorem dX10_figure_18 : decode cX10_figure 18 = .ok (.invokevirtual 79, 3) := by decide +kernel
theorem dX10_figure_21 : decode cX10_figure 21 = .ok (.ifCond .eq 13, 3) := by decide +kernel
theorem dX10_figure_24 : decode cX10_figure 24 = .ok (.aload_n 0, 1) := by decide +kernel
theorem dX10_figure_25 : decode cX10_figure 25 = .ok (.getfield 50, 3) := by decide +kernel
theorem dX10_figure_28 : decode cX10_figure 28 = .ok (.invokevirtual 75, 3) := by decide +kernel
theorem dX10_figure_31 : decode cX10_figure 31 = .ok (.goto 5, 3) := by decide +kernel
theorem dX10_figure_34 : decode cX10_figure 34 = .ok (.bipush (-3), 2) := by decide +kernel
theorem dX10_figure_36 : decode cX10_figure 36 = .ok (.ireturn, 1) := by decide +kernel
set_option maxRecDepth 20000 in
theorem ggX10_noFigures_X6_clear : GoodIn wsX10_noFigures wsX6_clear := goodIn_r _ [6, 7, 18, 19] (by decide +kernel) (by decide +kernel)
set_option maxRecDepth 20000 in
theorem gX10_noFigures_X6_clear : GoodIn wsX10_noFigures (wsV RX10 83 RX6 yX6_clear wsX6_clear) := goodIn_app (goodIn_of _ (by decide +kernel)) ggX10_noFigures_X6_clear
theorem dX10_noFigures_0 : decode cX10_noFigures 0 = .ok (.aload_n 0, 1) := by decide +kernel
theorem dX10_noFigures_1 : decode cX10_noFigures 1 = .ok (.getfield 50, 3) := by decide +kernel
theorem dX10_noFigures_4 : decode cX10_noFigures 4 = .ok (.invokevirtual 83, 3) := by decide +kernel
theorem dX10_noFigures_7 : decode cX10_noFigures 7 = .ok (.ireturn, 1) := by decide +kernel
set_option maxRecDepth 20000 in
theorem ggX10_said_X8_speak : GoodIn wsX10_said wsX8_speak := goodIn_r _ [7, 8, 9, 10, 11, 12, 13, 14, 15, 16, 17, 18, 19, 20, 21, 22, 23, 24, 25, 26, 6, 27, 28, 29, 30, 31, 32, 33, 34, 35, 36, 37, 38, 39, 40, 57, 58, 59, 60] (by decide +kernel) (by decide +kernel)
set_option maxRecDepth 20000 in
theorem gX10_said_X8_speak : GoodIn wsX10_said (wsV RX10 168 RX8 yX8_speak wsX8_speak) := goodIn_app (goodIn_of _ (by decide +kernel)) ggX10_said_X8_speak
set_option maxRecDepth 20000 in
theorem ggX10_said_X10_part : GoodIn wsX10_said wsX10_part := goodIn_r _ [44, 45, 33, 34, 13, 35, 15, 46, 17, 18, 19, 20, 59, 60] (by decide +kernel) (by decide +kernel)
set_option maxRecDepth 20000 in
theorem gX10_said_X10_part : GoodIn wsX10_said (va_wsS RX10 172 yX10_part wsX10_part) := goodIn_app (goodIn_of _ (by decide +kernel)) ggX10_said_X10_part
theorem dX10_said_0 : decode cX10_said 0 = .ok (.iload_n 2, 1) := by decide +kernel
theorem dX10_said_1 : decode cX10_said 1 = .ok (.ifCond .lt 14, 3) := by decide +kernel
theorem dX10_said_4 : decode cX10_said 4 = .ok (.iload_n 2, 1) := by decide +kernel
theorem dX10_said_5 : decode cX10_said 5 = .ok (.bipush 12, 2) := by decide +kernel
theorem dX10_said_7 : decode cX10_said 7 = .ok (.if_icmp .gt 8, 3) := by decide +kernel
theorem dX10_said_10 : decode cX10_said 10 = .ok (.iload_n 3, 1) := by decide +kernel
theorem dX10_said_11 : decode cX10_said 11 = .ok (.iconst (-1), 1) := by decide +kernel
theorem dX10_said_12 : decode cX10_said 12 = .ok (.if_icmp .ge 5, 3) := by decide +kernel
theorem dX10_said_15 : decode cX10_said 15 = .ok (.iconst (-1), 1) := by decide +kernel
theorem dX10_said_16 : decode cX10_said 16 = .ok (.ireturn, 1) := by decide +kernel
theorem dX10_said_17 : decode cX10_said 17 = .ok (.aload_n 0, 1) := by decide +kernel
theorem dX10_said_18 : decode cX10_said 18 = .ok (.getfield 56, 3) := by decide +kernel
theorem dX10_said_21 : decode cX10_said 21 = .ok (.aload_n 0, 1) := by decide +kernel
theorem dX10_said_22 : decode cX10_said 22 = .ok (.getfield 50, 3) := by decide +kernel
theorem dX10_said_25 : decode cX10_said 25 = .ok (.iload_n 1, 1) := by decide +kernel
theorem dX10_said_26 : decode cX10_said 26 = .ok (.iload_n 2, 1) := by decide +kernel
theorem dX10_said_27 : decode cX10_said 27 = .ok (.invokevirtual 168, 3) := by decide +kernel
theorem dX10_said_30 : decode cX10_said 30 = .ok (.iload_n 3, 1) := by decide +kernel
theorem dX10_said_31 : decode cX10_said 31 = .ok (.invokestatic 172, 3) := by decide +kernel
theorem dX10_said_34 : decode cX10_said 34 = .ok (.ireturn, 1) := by decide +kernel
set_option maxRecDepth 20000 in
theorem ggX10_unsaid_X8_takeBack : GoodIn wsX10_unsaid wsX8_takeBack := goodIn_r _ [7, 8, 9, 10, 6, 11, 12, 13, 14, 15, 16, 17, 18, 19, 20, 21, 22, 23, 24, 25, 26, 27, 28, 29, 30, 47, 48, 49, 50] (by decide +kernel) (by decide +kernel)
set_option maxRecDepth 20000 in
theorem gX10_unsaid_X8_takeBack : GoodIn wsX10_unsaid (wsV RX10 176 RX8 yX8_takeBack wsX8_takeBack) := goodIn_app (goodIn_of _ (by decide +kernel)) ggX10_unsaid_X8_takeBack
set_option maxRecDepth 20000 in
theorem ggX10_unsaid_X10_part : GoodIn wsX10_unsaid wsX10_part := goodIn_r _ [34, 35, 19, 20, 15, 21, 17, 36, 23, 24, 25, 26, 49, 50] (by decide +kernel) (by decide +kernel)
set_option maxRecDepth 20000 in
theorem gX10_unsaid_X10_part : GoodIn wsX10_unsaid (va_wsS RX10 172 yX10_part wsX10_part) := goodIn_app (goodIn_of _ (by decide +kernel)) ggX10_unsaid_X10_part
theorem dX10_unsaid_0 : decode cX10_unsaid 0 = .ok (.iload_n 1, 1) := by decide +kernel
theorem dX10_unsaid_1 : decode cX10_unsaid 1 = .ok (.iconst (-1), 1) := by decide +kernel
theorem dX10_unsaid_2 : decode cX10_unsaid 2 = .ok (.if_icmp .ge 5, 3) := by decide +kernel
theorem dX10_unsaid_5 : decode cX10_unsaid 5 = .ok (.iconst (-1), 1) := by decide +kernel
theorem dX10_unsaid_6 : decode cX10_unsaid 6 = .ok (.ireturn, 1) := by decide +kernel
theorem dX10_unsaid_7 : decode cX10_unsaid 7 = .ok (.aload_n 0, 1) := by decide +kernel
theorem dX10_unsaid_8 : decode cX10_unsaid 8 = .ok (.getfield 56, 3) := by decide +kernel
theorem dX10_unsaid_11 : decode cX10_unsaid 11 = .ok (.aload_n 0, 1) := by decide +kernel
theorem dX10_unsaid_12 : decode cX10_unsaid 12 = .ok (.getfield 50, 3) := by decide +kernel
theorem dX10_unsaid_15 : decode cX10_unsaid 15 = .ok (.invokevirtual 176, 3) := by decide +kernel
theorem dX10_unsaid_18 : decode cX10_unsaid 18 = .ok (.iload_n 1, 1) := by decide +kernel
theorem dX10_unsaid_19 : decode cX10_unsaid 19 = .ok (.invokestatic 172, 3) := by decide +kernel
theorem dX10_unsaid_22 : decode cX10_unsaid 22 = .ok (.ireturn, 1) := by decide +kernel
set_option maxRecDepth 20000 in
theorem ggX10_backs_X8_mostBacks : GoodIn wsX10_backs wsX8_mostBacks := goodIn_r _ [7, 8, 9, 10, 11, 12, 13, 14, 15, 16, 17, 18, 19, 20, 21, 22, 23, 24, 25, 26, 6, 27, 28, 29, 30, 31, 32, 33, 34, 35, 36, 37, 48, 49, 50, 51] (by decide +kernel) (by decide +kernel)
set_option maxRecDepth 20000 in
theorem gX10_backs_X8_mostBacks : GoodIn wsX10_backs (wsV RX10 180 RX8 yX8_mostBacks wsX8_mostBacks) := goodIn_app (goodIn_of _ (by decide +kernel)) ggX10_backs_X8_mostBacks
theorem dX10_backs_0 : decode cX10_backs 0 = .ok (.aload_n 0, 1) := by decide +kernel
theorem dX10_backs_1 : decode cX10_backs 1 = .ok (.getfield 56, 3) := by decide +kernel
theorem dX10_backs_4 : decode cX10_backs 4 = .ok (.aload_n 0, 1) := by decide +kernel
theorem dX10_backs_5 : decode cX10_backs 5 = .ok (.getfield 50, 3) := by decide +kernel
theorem dX10_backs_8 : decode cX10_backs 8 = .ok (.invokevirtual 180, 3) := by decide +kernel
theorem dX10_backs_11 : decode cX10_backs 11 = .ok (.ireturn, 1) := by decide +kernel
set_option maxRecDepth 20000 in
theorem ggX10_round_X4_find : GoodIn wsX10_round wsX4_find := goodIn_r _ [7, 8, 9, 10, 11, 12, 13, 14, 15, 16, 17, 18, 19, 20, 21, 22, 23, 24, 25, 26, 27, 28, 29, 30, 31, 32, 33, 34, 35, 36, 37, 38, 39, 40, 41, 42, 43, 62, 63, 64, 65, 66] (by decide +kernel) (by decide +kernel)
set_option maxRecDepth 20000 in
theorem gX10_round_X4_find : GoodIn wsX10_round (wsV RX10 184 RX4 yX4_find wsX4_find) := goodIn_app (goodIn_of _ (by decide +kernel)) ggX10_round_X4_find
set_option maxRecDepth 20000 in
theorem ggX10_round_X4_tail : GoodIn wsX10_round wsX4_tail := goodIn_r _ [47, 9, 62, 63, 64] (by decide +kernel) (by decide +kernel)
set_option maxRecDepth 20000 in
theorem gX10_round_X4_tail : GoodIn wsX10_round (wsV RX10 188 RX4 yX4_tail wsX4_tail) := goodIn_app (goodIn_of _ (by decide +kernel)) ggX10_round_X4_tail
set_option maxRecDepth 20000 in
theorem ggX10_round_X4_length : GoodIn wsX10_round wsX4_length := goodIn_r _ [51, 10, 62, 63, 64] (by decide +kernel) (by decide +kernel)
set_option maxRecDepth 20000 in
theorem gX10_round_X4_length : GoodIn wsX10_round (wsV RX10 190 RX4 yX4_length wsX4_length) := goodIn_app (goodIn_of _ (by decide +kernel)) ggX10_round_X4_length
theorem dX10_round_0 : decode cX10_round 0 = .ok (.iload_n 1, 1) := by decide +kernel
theorem dX10_round_1 : decode cX10_round 1 = .ok (.ifCond .lt 8, 3) := by decide +kernel
theorem dX10_round_4 : decode cX10_round 4 = .ok (.iload_n 1, 1) := by decide +kernel
theorem dX10_round_5 : decode cX10_round 5 = .ok (.iconst 1, 1) := by decide +kernel
theorem dX10_round_6 : decode cX10_round 6 = .ok (.if_icmp .le 5, 3) := by decide +kernel
theorem dX10_round_9 : decode cX10_round 9 = .ok (.iconst (-1), 1) := by decide +kernel
theorem dX10_round_10 : decode cX10_round 10 = .ok (.ireturn, 1) := by decide +kernel
theorem dX10_round_11 : decode cX10_round 11 = .ok (.aload_n 0, 1) := by decide +kernel
theorem dX10_round_12 : decode cX10_round 12 = .ok (.getfield 63, 3) := by decide +kernel
theorem dX10_round_15 : decode cX10_round 15 = .ok (.aload_n 0, 1) := by decide +kernel
theorem dX10_round_16 : decode cX10_round 16 = .ok (.getfield 50, 3) := by decide +kernel
theorem dX10_round_19 : decode cX10_round 19 = .ok (.invokevirtual 184, 3) := by decide +kernel
theorem dX10_round_22 : decode cX10_round 22 = .ok (.ifCond .ne 6, 3) := by decide +kernel
theorem dX10_round_25 : decode cX10_round 25 = .ok (.bipush (-2), 2) := by decide +kernel
theorem dX10_round_27 : decode cX10_round 27 = .ok (.ireturn, 1) := by decide +kernel
theorem dX10_round_28 : decode cX10_round 28 = .ok (.iload_n 1, 1) := by decide +kernel
theorem dX10_round_29 : decode cX10_round 29 = .ok (.ifCond .ne 13, 3) := by decide +kernel
theorem dX10_round_32 : decode cX10_round 32 = .ok (.aload_n 0, 1) := by decide +kernel
theorem dX10_round_33 : decode cX10_round 33 = .ok (.getfield 63, 3) := by decide +kernel
theorem dX10_round_36 : decode cX10_round 36 = .ok (.invokevirtual 188, 3) := by decide +kernel
theorem dX10_round_39 : decode cX10_round 39 = .ok (.goto 10, 3) := by decide +kernel
theorem dX10_round_42 : decode cX10_round 42 = .ok (.aload_n 0, 1) := by decide +kernel
theorem dX10_round_43 : decode cX10_round 43 = .ok (.getfield 63, 3) := by decide +kernel
theorem dX10_round_46 : decode cX10_round 46 = .ok (.invokevirtual 190, 3) := by decide +kernel
theorem dX10_round_49 : decode cX10_round 49 = .ok (.ireturn, 1) := by decide +kernel
set_option maxRecDepth 20000 in
theorem ggX10_tellers_X9_search : GoodIn wsX10_tellers wsX9_search := goodIn_r _ [7, 8, 9, 10, 11, 12, 13, 6, 14, 15, 16, 17, 18, 19, 20, 21, 22, 23, 24, 39, 40, 41, 42] (by decide +kernel) (by decide +kernel)
set_option maxRecDepth 20000 in
theorem gX10_tellers_X9_search : GoodIn wsX10_tellers (wsV RX10 194 RX9 yX9_search wsX9_search) := goodIn_app (goodIn_of _ (by decide +kernel)) ggX10_tellers_X9_search
set_option maxRecDepth 20000 in
theorem ggX10_tellers_X9_answer : GoodIn wsX10_tellers wsX9_answer := goodIn_r _ [28, 11, 39, 40, 41, 42] (by decide +kernel) (by decide +kernel)
set_option maxRecDepth 20000 in
theorem gX10_tellers_X9_answer : GoodIn wsX10_tellers (wsV RX10 197 RX9 yX9_answer wsX9_answer) := goodIn_app (goodIn_of _ (by decide +kernel)) ggX10_tellers_X9_answer
theorem dX10_tellers_0 : decode cX10_tellers 0 = .ok (.iload_n 1, 1) := by decide +kernel
theorem dX10_tellers_1 : decode cX10_tellers 1 = .ok (.iconst 2, 1) := by decide +kernel
theorem dX10_tellers_2 : decode cX10_tellers 2 = .ok (.if_icmp .lt 14, 3) := by decide +kernel
theorem dX10_tellers_5 : decode cX10_tellers 5 = .ok (.iload_n 1, 1) := by decide +kernel
theorem dX10_tellers_6 : decode cX10_tellers 6 = .ok (.bipush 10, 2) := by decide +kernel
theorem dX10_tellers_8 : decode cX10_tellers 8 = .ok (.if_icmp .gt 8, 3) := by decide +kernel
theorem dX10_tellers_11 : decode cX10_tellers 11 = .ok (.iload_n 2, 1) := by decide +kernel
theorem dX10_tellers_12 : decode cX10_tellers 12 = .ok (.iconst (-1), 1) := by decide +kernel
theorem dX10_tellers_13 : decode cX10_tellers 13 = .ok (.if_icmp .ge 7, 3) := by decide +kernel
theorem dX10_tellers_16 : decode cX10_tellers 16 = .ok (.ldc2_w 192, 3) := by decide +kernel
theorem dX10_tellers_19 : decode cX10_tellers 19 = .ok (.lreturn, 1) := by decide +kernel
theorem dX10_tellers_20 : decode cX10_tellers 20 = .ok (.aload_n 0, 1) := by decide +kernel
theorem dX10_tellers_21 : decode cX10_tellers 21 = .ok (.getfield 70, 3) := by decide +kernel
theorem dX10_tellers_24 : decode cX10_tellers 24 = .ok (.iload_n 1, 1) := by decide +kernel
theorem dX10_tellers_25 : decode cX10_tellers 25 = .ok (.iload_n 2, 1) := by decide +kernel
theorem dX10_tellers_26 : decode cX10_tellers 26 = .ok (.invokevirtual 194, 3) := by decide +kernel
theorem dX10_tellers_29 : decode cX10_tellers 29 = .ok (.istore_n 3, 1) := by decide +kernel
theorem dX10_tellers_30 : decode cX10_tellers 30 = .ok (.iload_n 2, 1) := by decide +kernel
theorem dX10_tellers_31 : decode cX10_tellers 31 = .ok (.iconst (-1), 1) := by decide +kernel
theorem dX10_tellers_32 : decode cX10_tellers 32 = .ok (.if_icmp .ne 8, 3) := by decide +kernel
theorem dX10_tellers_35 : decode cX10_tellers 35 = .ok (.iload_n 3, 1) := by decide +kernel
theorem dX10_tellers_36 : decode cX10_tellers 36 = .ok (.i2l, 1) := by decide +kernel
theorem dX10_tellers_37 : decode cX10_tellers 37 = .ok (.goto 10, 3) := by decide +kernel
theorem dX10_tellers_40 : decode cX10_tellers 40 = .ok (.aload_n 0, 1) := by decide +kernel
theorem dX10_tellers_41 : decode cX10_tellers 41 = .ok (.getfield 70, 3) := by decide +kernel
theorem dX10_tellers_44 : decode cX10_tellers 44 = .ok (.invokevirtual 197, 3) := by decide +kernel
theorem dX10_tellers_47 : decode cX10_tellers 47 = .ok (.lreturn, 1) := by decide +kernel
set_option maxRecDepth 20000 in
theorem ggX10_count_X6_size : GoodIn wsX10_count wsX6_size := goodIn_r _ [8, 9, 20, 21] (by decide +kernel) (by decide +kernel)
set_option maxRecDepth 20000 in
theorem gX10_count_X6_size : GoodIn wsX10_count (wsV RX10 75 RX6 yX6_size wsX6_size) := goodIn_app (goodIn_of _ (by decide +kernel)) ggX10_count_X6_size
theorem dX10_count_0 : decode cX10_count 0 = .ok (.iload_n 1, 1) := by decide +kernel
theorem dX10_count_1 : decode cX10_count 1 = .ok (.tableswitch 51 0 2 #[27, 35, 43], 27) := by decide +kernel
theorem dX10_count_28 : decode cX10_count 28 = .ok (.aload_n 0, 1) := by decide +kernel
theorem dX10_count_29 : decode cX10_count 29 = .ok (.getfield 36, 3) := by decide +kernel
theorem dX10_count_32 : decode cX10_count 32 = .ok (.invokevirtual 75, 3) := by decide +kernel
theorem dX10_count_35 : decode cX10_count 35 = .ok (.ireturn, 1) := by decide +kernel
theorem dX10_count_36 : decode cX10_count 36 = .ok (.aload_n 0, 1) := by decide +kernel
theorem dX10_count_37 : decode cX10_count 37 = .ok (.getfield 47, 3) := by decide +kernel
theorem dX10_count_40 : decode cX10_count 40 = .ok (.invokevirtual 75, 3) := by decide +kernel
theorem dX10_count_43 : decode cX10_count 43 = .ok (.ireturn, 1) := by decide +kernel
theorem dX10_count_44 : decode cX10_count 44 = .ok (.aload_n 0, 1) := by decide +kernel
theorem dX10_count_45 : decode cX10_count 45 = .ok (.getfield 50, 3) := by decide +kernel
theorem dX10_count_48 : decode cX10_count 48 = .ok (.invokevirtual 75, 3) := by decide +kernel
theorem dX10_count_51 : decode cX10_count 51 = .ok (.ireturn, 1) := by decide +kernel
theorem dX10_count_52 : decode cX10_count 52 = .ok (.iconst (-1), 1) := by decide +kernel
theorem dX10_count_53 : decode cX10_count 53 = .ok (.ireturn, 1) := by decide +kernel
theorem dX10_isNumber_0 : decode cX10_isNumber 0 = .ok (.iload_n 0, 1) := by decide +kernel
theorem dX10_isNumber_1 : decode cX10_isNumber 1 = .ok (.ifCond .lt 13, 3) := by decide +kernel
theorem dX10_isNumber_4 : decode cX10_isNumber 4 = .ok (.iload_n 0, 1) := by decide +kernel
theorem dX10_isNumber_5 : decode cX10_isNumber 5 = .ok (.ldc 201, 2) := by decide +kernel
theorem dX10_isNumber_7 : decode cX10_isNumber 7 = .ok (.if_icmp .gt 7, 3) := by decide +kernel
theorem dX10_isNumber_10 : decode cX10_isNumber 10 = .ok (.iconst 1, 1) := by decide +kernel
theorem dX10_isNumber_11 : decode cX10_isNumber 11 = .ok (.goto 4, 3) := by decide +kernel
theorem dX10_isNumber_14 : decode cX10_isNumber 14 = .ok (.iconst 0, 1) := by decide +kernel
theorem dX10_isNumber_15 : decode cX10_isNumber 15 = .ok (.ireturn, 1) := by decide +kernel
theorem dX10_registerOf_0 : decode cX10_registerOf 0 = .ok (.iload_n 1, 1) := by decide +kernel
theorem dX10_registerOf_1 : decode cX10_registerOf 1 = .ok (.ifCond .lt 17, 3) := by decide +kernel
theorem dX10_registerOf_4 : decode cX10_registerOf 4 = .ok (.iload_n 1, 1) := by decide +kernel
theorem dX10_registerOf_5 : decode cX10_registerOf 5 = .ok (.iconst 4, 1) := by decide +kernel
theorem dX10_registerOf_6 : decode cX10_registerOf 6 = .ok (.if_icmp .ge 12, 3) := by decide +kernel
theorem dX10_registerOf_9 : decode cX10_registerOf 9 = .ok (.aload_n 0, 1) := by decide +kernel
theorem dX10_registerOf_10 : decode cX10_registerOf 10 = .ok (.getfield 11, 3) := by decide +kernel
theorem dX10_registerOf_13 : decode cX10_registerOf 13 = .ok (.iload_n 1, 1) := by decide +kernel
theorem dX10_registerOf_14 : decode cX10_registerOf 14 = .ok (.aaload, 1) := by decide +kernel
theorem dX10_registerOf_15 : decode cX10_registerOf 15 = .ok (.goto 4, 3) := by decide +kernel
theorem dX10_registerOf_18 : decode cX10_registerOf 18 = .ok (.aconst_null, 1) := by decide +kernel
theorem dX10_registerOf_19 : decode cX10_registerOf 19 = .ok (.areturn, 1) := by decide +kernel
set_option maxRecDepth 20000 in
theorem ggX10_madeRow_X10_registerOf : GoodIn wsX10_madeRow wsX10_registerOf := goodIn_r _ [6, 7, 102, 103, 104, 105, 106, 107, 108, 109, 110, 111] (by decide +kernel) (by decide +kernel)
set_option maxRecDepth 20000 in
theorem gX10_madeRow_X10_registerOf : GoodIn wsX10_madeRow (wsV RX10 99 RX10 yX10_registerOf wsX10_registerOf) := goodIn_app (goodIn_of _ (by decide +kernel)) ggX10_madeRow_X10_registerOf
set_option maxRecDepth 20000 in
theorem ggX10_madeRow_X2_make : GoodIn wsX10_madeRow wsX2_make := goodIn_r _ [12, 13, 14, 15, 16, 17, 18, 19, 20, 21, 22, 23, 24, 25, 26, 27, 28, 11, 29, 30, 31, 32, 33, 34, 35, 36, 37, 38, 39, 40, 41, 42, 43, 44, 45, 46, 47, 48, 49, 50, 51, 52, 53, 54, 55, 56, 57, 58, 59, 60, 61, 62, 63, 64, 65, 66, 67, 68, 69, 70, 71, 72, 73, 74, 75, 76, 77, 78, 79, 80, 81, 82, 83, 84, 85, 86, 87, 88, 89, 90, 91, 92, 93, 94, 5, 95, 96, 112, 113, 97, 98, 99, 100, 101, 114, 115, 116] (by decide +kernel) (by decide +kernel)
set_option maxRecDepth 20000 in
theorem gX10_madeRow_X2_make : GoodIn wsX10_madeRow (wsV RX10 206 RX2 yX2_make wsX2_make) := goodIn_app (goodIn_of _ (by decide +kernel)) ggX10_madeRow_X2_make
theorem dX10_madeRow_0 : decode cX10_madeRow 0 = .ok (.aload_n 0, 1) := by decide +kernel
theorem dX10_madeRow_1 : decode cX10_madeRow 1 = .ok (.iload_n 1, 1) := by decide +kernel
theorem dX10_madeRow_2 : decode cX10_madeRow 2 = .ok (.invokevirtual 99, 3) := by decide +kernel
theorem dX10_madeRow_5 : decode cX10_madeRow 5 = .ok (.astore_n 2, 1) := by decide +kernel
theorem dX10_madeRow_6 : decode cX10_madeRow 6 = .ok (.aload_n 2, 1) := by decide +kernel
theorem dX10_madeRow_7 : decode cX10_madeRow 7 = .ok (.ifnull 18, 3) := by decide +kernel
theorem dX10_madeRow_10 : decode cX10_madeRow 10 = .ok (.aload_n 2, 1) := by decide +kernel
theorem dX10_madeRow_11 : decode cX10_madeRow 11 = .ok (.getfield 202, 3) := by decide +kernel
theorem dX10_madeRow_14 : decode cX10_madeRow 14 = .ok (.ifCond .ne 11, 3) := by decide +kernel
theorem dX10_madeRow_17 : decode cX10_madeRow 17 = .ok (.aload_n 0, 1) := by decide +kernel
theorem dX10_madeRow_18 : decode cX10_madeRow 18 = .ok (.getfield 27, 3) := by decide +kernel
theorem dX10_madeRow_21 : decode cX10_madeRow 21 = .ok (.aload_n 2, 1) := by decide +kernel
theorem dX10_madeRow_22 : decode cX10_madeRow 22 = .ok (.invokevirtual 206, 3) := by decide +kernel
theorem dX10_madeRow_25 : decode cX10_madeRow 25 = .ok (.aload_n 2, 1) := by decide +kernel
theorem dX10_madeRow_26 : decode cX10_madeRow 26 = .ok (.areturn, 1) := by decide +kernel
set_option maxRecDepth 20000 in
theorem ggX10_part_X6_size : GoodIn wsX10_part wsX6_size := goodIn_r _ [5, 6, 12, 13] (by decide +kernel) (by decide +kernel)
set_option maxRecDepth 20000 in
theorem gX10_part_X6_size : GoodIn wsX10_part (wsV RX10 75 RX6 yX6_size wsX6_size) := goodIn_app (goodIn_of _ (by decide +kernel)) ggX10_part_X6_size
set_option maxRecDepth 20000 in
theorem ggX10_part_X6_get : GoodIn wsX10_part wsX6_get := goodIn_r _ [10, 6, 11, 12, 13] (by decide +kernel) (by decide +kernel)
set_option maxRecDepth 20000 in
theorem gX10_part_X6_get : GoodIn wsX10_part (wsV RX10 120 RX6 yX6_get wsX6_get) := goodIn_app (goodIn_of _ (by decide +kernel)) ggX10_part_X6_get
theorem dX10_part_0 : decode cX10_part 0 = .ok (.aload_n 0, 1) := by decide +kernel
theorem dX10_part_1 : decode cX10_part 1 = .ok (.ifnonnull 6, 3) := by decide +kernel
theorem dX10_part_4 : decode cX10_part 4 = .ok (.bipush (-2), 2) := by decide +kernel
theorem dX10_part_6 : decode cX10_part 6 = .ok (.ireturn, 1) := by decide +kernel
theorem dX10_part_7 : decode cX10_part 7 = .ok (.iload_n 1, 1) := by decide +kernel
theorem dX10_part_8 : decode cX10_part 8 = .ok (.iconst (-1), 1) := by decide +kernel
theorem dX10_part_9 : decode cX10_part 9 = .ok (.if_icmp .ne 10, 3) := by decide +kernel
theorem dX10_part_12 : decode cX10_part 12 = .ok (.aload_n 0, 1) := by decide +kernel
theorem dX10_part_13 : decode cX10_part 13 = .ok (.invokevirtual 75, 3) := by decide +kernel
theorem dX10_part_16 : decode cX10_part 16 = .ok (.goto 8, 3) := by decide +kernel
theorem dX10_part_19 : decode cX10_part 19 = .ok (.aload_n 0, 1) := by decide +kernel
theorem dX10_part_20 : decode cX10_part 20 = .ok (.iload_n 1, 1) := by decide +kernel
theorem dX10_part_21 : decode cX10_part 21 = .ok (.invokevirtual 120, 3) := by decide +kernel
theorem dX10_part_24 : decode cX10_part 24 = .ok (.ireturn, 1) := by decide +kernel
end
section
theorem dX11_init_0 : decode cX11_init 0 = .ok (.aload_n 0, 1) := by decide +kernel
theorem dX11_init_1 : decode cX11_init 1 = .ok (.invokespecial 1, 3) := by decide +kernel
theorem dX11_init_4 : decode cX11_init 4 = .ok (.aload_n 0, 1) := by decide +kernel
theorem dX11_init_5 : decode cX11_init 5 = .ok (.bipush 120, 2) := by decide +kernel
theorem dX11_init_7 : decode cX11_init 7 = .ok (.newarray .byte, 2) := by decide +kernel
theorem dX11_init_9 : decode cX11_init 9 = .ok (.putfield 7, 3) := by decide +kernel
theorem dX11_init_12 : decode cX11_init 12 = .ok (.aload_n 0, 1) := by decide +kernel
theorem dX11_init_13 : decode cX11_init 13 = .ok (.bipush 32, 2) := by decide +kernel
theorem dX11_init_15 : decode cX11_init 15 = .ok (.newarray .int, 2) := by decide +kernel
theorem dX11_init_17 : decode cX11_init 17 = .ok (.putfield 13, 3) := by decide +kernel
theorem dX11_init_20 : decode cX11_init 20 = .ok (.aload_n 0, 1) := by decide +kernel
theorem dX11_init_21 : decode cX11_init 21 = .ok (.bipush 32, 2) := by decide +kernel
theorem dX11_init_23 : decode cX11_init 23 = .ok (.newarray .int, 2) := by decide +kernel
theorem dX11_init_25 : decode cX11_init 25 = .ok (.putfield 17, 3) := by decide +kernel
theorem dX11_init_28 : decode cX11_init 28 = .ok (.aload_n 0, 1) := by decide +kernel
theorem dX11_init_29 : decode cX11_init 29 = .ok (.iconst (-1), 1) := by decide +kernel
theorem dX11_init_30 : decode cX11_init 30 = .ok (.putfield 20, 3) := by decide +kernel
theorem dX11_init_33 : decode cX11_init 33 = .ok (.aload_n 0, 1) := by decide +kernel
theorem dX11_init_34 : decode cX11_init 34 = .ok (.sipush 2000, 3) := by decide +kernel
theorem dX11_init_37 : decode cX11_init 37 = .ok (.newarray .int, 2) := by decide +kernel
theorem dX11_init_39 : decode cX11_init 39 = .ok (.putfield 24, 3) := by decide +kernel
theorem dX11_init_42 : decode cX11_init 42 = .ok (.aload_n 0, 1) := by decide +kernel
theorem dX11_init_43 : decode cX11_init 43 = .ok (.ldc 27, 2) := by decide +kernel
theorem dX11_init_45 : decode cX11_init 45 = .ok (.newarray .int, 2) := by decide +kernel
theorem dX11_init_47 : decode cX11_init 47 = .ok (.putfield 28, 3) := by decide +kernel
theorem dX11_init_50 : decode cX11_init 50 = .ok (.aload_n 0, 1) := by decide +kernel
theorem dX11_init_51 : decode cX11_init 51 = .ok (.bipush 40, 2) := by decide +kernel
theorem dX11_init_53 : decode cX11_init 53 = .ok (.newarray .int, 2) := by decide +kernel
theorem dX11_init_55 : decode cX11_init 55 = .ok (.putfield 31, 3) := by decide +kernel
theorem dX11_init_58 : decode cX11_init 58 = .ok (.aload_n 0, 1) := by decide +kernel
theorem dX11_init_59 : decode cX11_init 59 = .ok (.bipush 40, 2) := by decide +kernel
theorem dX11_init_61 : decode cX11_init 61 = .ok (.newarray .int, 2) := by decide +kernel
theorem dX11_init_63 : decode cX11_init 63 = .ok (.putfield 34, 3) := by decide +kernel
theorem dX11_init_66 : decode cX11_init 66 = .ok (.aload_n 0, 1) := by decide +kernel
theorem dX11_init_67 : decode cX11_init 67 = .ok (.sipush 5000, 3) := by decide +kernel
theorem dX11_init_70 : decode cX11_init 70 = .ok (.newarray .int, 2) := by decide +kernel
theorem dX11_init_72 : decode cX11_init 72 = .ok (.putfield 37, 3) := by decide +kernel
theorem dX11_init_75 : decode cX11_init 75 = .ok (.aload_n 0, 1) := by decide +kernel
theorem dX11_init_76 : decode cX11_init 76 = .ok (.sipush 5000, 3) := by decide +kernel
theorem dX11_init_79 : decode cX11_init 79 = .ok (.newarray .int, 2) := by decide +kernel
theorem dX11_init_81 : decode cX11_init 81 = .ok (.putfield 40, 3) := by decide +kernel
theorem dX11_init_84 : decode cX11_init 84 = .ok (.aload_n 0, 1) := by decide +kernel
theorem dX11_init_85 : decode cX11_init 85 = .ok (.bipush 62, 2) := by decide +kernel
theorem dX11_init_87 : decode cX11_init 87 = .ok (.newarray .int, 2) := by decide +kernel
theorem dX11_init_89 : decode cX11_init 89 = .ok (.putfield 43, 3) := by decide +kernel
theorem dX11_init_92 : decode cX11_init 92 = .ok (.aload_n 0, 1) := by decide +kernel
theorem dX11_init_93 : decode cX11_init 93 = .ok (.sipush 2480, 3) := by decide +kernel
theorem dX11_init_96 : decode cX11_init 96 = .ok (.newarray .int, 2) := by decide +kernel
theorem dX11_init_98 : decode cX11_init 98 = .ok (.putfield 46, 3) := by decide +kernel
theorem dX11_init_101 : decode cX11_init 101 = .ok (.aload_n 0, 1) := by decide +kernel
theorem dX11_init_102 : decode cX11_init 102 = .ok (.bipush 11, 2) := by decide +kernel
theorem dX11_init_104 : decode cX11_init 104 = .ok (.newarray .int, 2) := by decide +kernel
theorem dX11_init_106 : decode cX11_init 106 = .ok (.putfield 49, 3) := by decide +kernel
theorem dX11_init_109 : decode cX11_init 109 = .ok (.aload_n 0, 1) := by decide +kernel
theorem dX11_init_110 : decode cX11_init 110 = .ok (.iconst 4, 1) := by decide +kernel
theorem dX11_init_111 : decode cX11_init 111 = .ok (.newarray .boolean, 2) := by decide +kernel
theorem dX11_init_113 : decode cX11_init 113 = .ok (.putfield 52, 3) := by decide +kernel
theorem dX11_init_116 : decode cX11_init 116 = .ok (.iconst 0, 1) := by decide +kernel
theorem dX11_init_117 : decode cX11_init 117 = .ok (.istore_n 1, 1) := by decide +kernel
theorem dX11_init_118 : decode cX11_init 118 = .ok (.iload_n 1, 1) := by decide +kernel
theorem dX11_init_119 : decode cX11_init 119 = .ok (.iconst 4, 1) := by decide +kernel
theorem dX11_init_120 : decode cX11_init 120 = .ok (.if_icmp .ge 45, 3) := by decide +kernel
theorem dX11_init_123 : decode cX11_init 123 = .ok (.aload_n 0, 1) := by decide +kernel
theorem dX11_init_124 : decode cX11_init 124 = .ok (.getfield 13, 3) := by decide +kernel
theorem dX11_init_127 : decode cX11_init 127 = .ok (.bipush 8, 2) := by decide +kernel
theorem dX11_init_129 : decode cX11_init 129 = .ok (.iload_n 1, 1) := by decide +kernel
theorem dX11_init_130 : decode cX11_init 130 = .ok (.imul, 1) := by decide +kernel
theorem dX11_init_131 : decode cX11_init 131 = .ok (.iconst 1, 1) := by decide +kernel
theorem dX11_init_132 : decode cX11_init 132 = .ok (.iadd, 1) := by decide +kernel
theorem dX11_init_133 : decode cX11_init 133 = .ok (.iconst 2, 1) := by decide +kernel
theorem dX11_init_134 : decode cX11_init 134 = .ok (.iastore, 1) := by decide +kernel
theorem dX11_init_135 : decode cX11_init 135 = .ok (.aload_n 0, 1) := by decide +kernel
theorem dX11_init_136 : decode cX11_init 136 = .ok (.getfield 13, 3) := by decide +kernel
theorem dX11_init_139 : decode cX11_init 139 = .ok (.bipush 8, 2) := by decide +kernel
theorem dX11_init_141 : decode cX11_init 141 = .ok (.iload_n 1, 1) := by decide +kernel
theorem dX11_init_142 : decode cX11_init 142 = .ok (.imul, 1) := by decide +kernel
theorem dX11_init_143 : decode cX11_init 143 = .ok (.iconst 2, 1) := by decide +kernel
theorem dX11_init_144 : decode cX11_init 144 = .ok (.iadd, 1) := by decide +kernel
theorem dX11_init_145 : decode cX11_init 145 = .ok (.iconst 1, 1) := by decide +kernel
theorem dX11_init_146 : decode cX11_init 146 = .ok (.iastore, 1) := by decide +kernel
theorem dX11_init_147 : decode cX11_init 147 = .ok (.aload_n 0, 1) := by decide +kernel
theorem dX11_init_148 : decode cX11_init 148 = .ok (.getfield 13, 3) := by decide +kernel
theorem dX11_init_151 : decode cX11_init 151 = .ok (.bipush 8, 2) := by decide +kernel
theorem dX11_init_153 : decode cX11_init 153 = .ok (.iload_n 1, 1) := by decide +kernel
theorem dX11_init_154 : decode cX11_init 154 = .ok (.imul, 1) := by decide +kernel
theorem dX11_init_155 : decode cX11_init 155 = .ok (.iconst 3, 1) := by decide +kernel
theorem dX11_init_156 : decode cX11_init 156 = .ok (.iadd, 1) := by decide +kernel
theorem dX11_init_157 : decode cX11_init 157 = .ok (.iconst 1, 1) := by decide +kernel
theorem dX11_init_158 : decode cX11_init 158 = .ok (.iastore, 1) := by decide +kernel
theorem dX11_init_159 : decode cX11_init 159 = .ok (.iinc 1 1, 3) := by decide +kernel
theorem dX11_init_162 : decode cX11_init 162 = .ok (.goto (-44), 3) := by decide +kernel
theorem dX11_init_165 : decode cX11_init 165 = .ok (.return_, 1) := by decide +kernel
theorem dX11_in_0 : decode cX11_in 0 = .ok (.lload_n 0, 1) := by decide +kernel
theorem dX11_in_1 : decode cX11_in 1 = .ok (.lload_n 2, 1) := by decide +kernel
theorem dX11_in_2 : decode cX11_in 2 = .ok (.lcmp, 1) := by decide +kernel
theorem dX11_in_3 : decode cX11_in 3 = .ok (.ifCond .lt 14, 3) := by decide +kernel
theorem dX11_in_6 : decode cX11_in 6 = .ok (.lload_n 0, 1) := by decide +kernel
theorem dX11_in_7 : decode cX11_in 7 = .ok (.lload 4, 2) := by decide +kernel
theorem dX11_in_9 : decode cX11_in 9 = .ok (.lcmp, 1) := by decide +kernel
theorem dX11_in_10 : decode cX11_in 10 = .ok (.ifCond .gt 7, 3) := by decide +kernel
theorem dX11_in_13 : decode cX11_in 13 = .ok (.iconst 1, 1) := by decide +kernel
theorem dX11_in_14 : decode cX11_in 14 = .ok (.goto 4, 3) := by decide +kernel
theorem dX11_in_17 : decode cX11_in 17 = .ok (.iconst 0, 1) := by decide +kernel
theorem dX11_in_18 : decode cX11_in 18 = .ok (.ireturn, 1) := by decide +kernel
set_option maxRecDepth 20000 in
theorem ggX11_write_X11_in : GoodIn wsX11_write wsX11_in := goodIn_r _ [7] (by decide +kernel) (by decide +kernel)
set_option maxRecDepth 20000 in
theorem gX11_write_X11_in : GoodIn wsX11_write (va_wsS RX11 58 yX11_in wsX11_in) := goodIn_app (goodIn_of _ (by decide +kernel)) ggX11_write_X11_in
theorem dX11_write_0 : decode cX11_write 0 = .ok (.iload_n 1, 1) := by decide +kernel
theorem dX11_write_1 : decode cX11_write 1 = .ok (.i2l, 1) := by decide +kernel
theorem dX11_write_2 : decode cX11_write 2 = .ok (.lconst 1, 1) := by decide +kernel
theorem dX11_write_3 : decode cX11_write 3 = .ok (.ldc2_w 56, 3) := by decide +kernel
theorem dX11_write_6 : decode cX11_write 6 = .ok (.invokestatic 58, 3) := by decide +kernel
theorem dX11_write_9 : decode cX11_write 9 = .ok (.ifCond .ne 5, 3) := by decide +kernel
theorem dX11_write_12 : decode cX11_write 12 = .ok (.iconst (-1), 1) := by decide +kernel
theorem dX11_write_13 : decode cX11_write 13 = .ok (.ireturn, 1) := by decide +kernel
theorem dX11_write_14 : decode cX11_write 14 = .ok (.aload_n 0, 1) := by decide +kernel
theorem dX11_write_15 : decode cX11_write 15 = .ok (.getfield 62, 3) := by decide +kernel
theorem dX11_write_18 : decode cX11_write 18 = .ok (.iload_n 1, 1) := by decide +kernel
theorem dX11_write_19 : decode cX11_write 19 = .ok (.iadd, 1) := by decide +kernel
theorem dX11_write_20 : decode cX11_write 20 = .ok (.bipush 120, 2) := by decide +kernel
theorem dX11_write_22 : decode cX11_write 22 = .ok (.if_icmp .le 6, 3) := by decide +kernel
theorem dX11_write_25 : decode cX11_write 25 = .ok (.bipush (-3), 2) := by decide +kernel
theorem dX11_write_27 : decode cX11_write 27 = .ok (.ireturn, 1) := by decide +kernel
theorem dX11_write_28 : decode cX11_write 28 = .ok (.iload_n 1, 1) := by decide +kernel
theorem dX11_write_29 : decode cX11_write 29 = .ok (.iconst 1, 1) := by decide +kernel
theorem dX11_write_30 : decode cX11_write 30 = .ok (.isub, 1) := by decide +kernel
theorem dX11_write_31 : decode cX11_write 31 = .ok (.istore 4, 2) := by decide +kernel
theorem dX11_write_33 : decode cX11_write 33 = .ok (.iload 4, 2) := by decide +kernel
theorem dX11_write_35 : decode cX11_write 35 = .ok (.ifCond .lt 37, 3) := by decide +kernel
theorem dX11_write_38 : decode cX11_write 38 = .ok (.aload_n 0, 1) := by decide +kernel
theorem dX11_write_39 : decode cX11_write 39 = .ok (.getfield 7, 3) := by decide +kernel
theorem dX11_write_42 : decode cX11_write 42 = .ok (.aload_n 0, 1) := by decide +kernel
theorem dX11_write_43 : decode cX11_write 43 = .ok (.getfield 62, 3) := by decide +kernel
theorem dX11_write_46 : decode cX11_write 46 = .ok (.lload_n 2, 1) := by decide +kernel
theorem dX11_write_47 : decode cX11_write 47 = .ok (.bipush 8, 2) := by decide +kernel
theorem dX11_write_49 : decode cX11_write 49 = .ok (.iload 4, 2) := by decide +kernel
theorem dX11_write_51 : decode cX11_write 51 = .ok (.imul, 1) := by decide +kernel
theorem dX11_write_52 : decode cX11_write 52 = .ok (.lshr, 1) := by decide +kernel
theorem dX11_write_53 : decode cX11_write 53 = .ok (.l2i, 1) := by decide +kernel
theorem dX11_write_54 : decode cX11_write 54 = .ok (.i2b, 1) := by decide +kernel
theorem dX11_write_55 : decode cX11_write 55 = .ok (.bastore, 1) := by decide +kernel
theorem dX11_write_56 : decode cX11_write 56 = .ok (.aload_n 0, 1) := by decide +kernel
theorem dX11_write_57 : decode cX11_write 57 = .ok (.dup, 1) := by decide +kernel
theorem dX11_write_58 : decode cX11_write 58 = .ok (.getfield 62, 3) := by decide +kernel
theorem dX11_write_61 : decode cX11_write 61 = .ok (.iconst 1, 1) := by decide +kernel
theorem dX11_write_62 : decode cX11_write 62 = .ok (.iadd, 1) := by decide +kernel
theorem dX11_write_63 : decode cX11_write 63 = .ok (.putfield 62, 3) := by decide +kernel
theorem dX11_write_66 : decode cX11_write 66 = .ok (.iinc 4 (-1), 3) := by decide +kernel
theorem dX11_write_69 : decode cX11_write 69 = .ok (.goto (-36), 3) := by decide +kernel
theorem dX11_write_72 : decode cX11_write 72 = .ok (.aload_n 0, 1) := by decide +kernel
theorem dX11_write_73 : decode cX11_write 73 = .ok (.getfield 62, 3) := by decide +kernel
theorem dX11_write_76 : decode cX11_write 76 = .ok (.ireturn, 1) := by decide +kernel
theorem dX11_wipe_0 : decode cX11_wipe 0 = .ok (.aload_n 0, 1) := by decide +kernel
theorem dX11_wipe_1 : decode cX11_wipe 1 = .ok (.getfield 62, 3) := by decide +kernel
theorem dX11_wipe_4 : decode cX11_wipe 4 = .ok (.istore_n 1, 1) := by decide +kernel
theorem dX11_wipe_5 : decode cX11_wipe 5 = .ok (.aload_n 0, 1) := by decide +kernel
theorem dX11_wipe_6 : decode cX11_wipe 6 = .ok (.iconst 0, 1) := by decide +kernel
theorem dX11_wipe_7 : decode cX11_wipe 7 = .ok (.putfield 62, 3) := by decide +kernel
theorem dX11_wipe_10 : decode cX11_wipe 10 = .ok (.iload_n 1, 1) := by decide +kernel
theorem dX11_wipe_11 : decode cX11_wipe 11 = .ok (.ireturn, 1) := by decide +kernel
theorem dX11_is_0 : decode cX11_is 0 = .ok (.aload_n 0, 1) := by decide +kernel
theorem dX11_is_1 : decode cX11_is 1 = .ok (.getfield 65, 3) := by decide +kernel
theorem dX11_is_4 : decode cX11_is 4 = .ok (.aload_n 0, 1) := by decide +kernel
theorem dX11_is_5 : decode cX11_is 5 = .ok (.getfield 62, 3) := by decide +kernel
theorem dX11_is_8 : decode cX11_is 8 = .ok (.if_icmp .ge 20, 3) := by decide +kernel
theorem dX11_is_11 : decode cX11_is 11 = .ok (.aload_n 0, 1) := by decide +kernel
theorem dX11_is_12 : decode cX11_is 12 = .ok (.getfield 7, 3) := by decide +kernel
theorem dX11_is_15 : decode cX11_is 15 = .ok (.aload_n 0, 1) := by decide +kernel
theorem dX11_is_16 : decode cX11_is 16 = .ok (.getfield 65, 3) := by decide +kernel
theorem dX11_is_19 : decode cX11_is 19 = .ok (.baload, 1) := by decide +kernel
theorem dX11_is_20 : decode cX11_is 20 = .ok (.iload_n 1, 1) := by decide +kernel
theorem dX11_is_21 : decode cX11_is 21 = .ok (.if_icmp .ne 7, 3) := by decide +kernel
theorem dX11_is_24 : decode cX11_is 24 = .ok (.iconst 1, 1) := by decide +kernel
theorem dX11_is_25 : decode cX11_is 25 = .ok (.goto 4, 3) := by decide +kernel
theorem dX11_is_28 : decode cX11_is 28 = .ok (.iconst 0, 1) := by decide +kernel
theorem dX11_is_29 : decode cX11_is 29 = .ok (.ireturn, 1) := by decide +kernel
set_option maxRecDepth 20000 in
theorem ggX11_oneOrTwo_X11_in : GoodIn wsX11_oneOrTwo wsX11_in := goodIn_r _ [10] (by decide +kernel) (by decide +kernel)
set_option maxRecDepth 20000 in
theorem gX11_oneOrTwo_X11_in : GoodIn wsX11_oneOrTwo (va_wsS RX11 58 yX11_in wsX11_in) := goodIn_app (goodIn_of _ (by decide +kernel)) ggX11_oneOrTwo_X11_in
theorem dX11_oneOrTwo_0 : decode cX11_oneOrTwo 0 = .ok (.iconst 0, 1) := by decide +kernel
theorem dX11_oneOrTwo_1 : decode cX11_oneOrTwo 1 = .ok (.istore_n 1, 1) := by decide +kernel
theorem dX11_oneOrTwo_2 : decode cX11_oneOrTwo 2 = .ok (.iconst 0, 1) := by decide +kernel
theorem dX11_oneOrTwo_3 : decode cX11_oneOrTwo 3 = .ok (.istore_n 2, 1) := by decide +kernel
theorem dX11_oneOrTwo_4 : decode cX11_oneOrTwo 4 = .ok (.aload_n 0, 1) := by decide +kernel
theorem dX11_oneOrTwo_5 : decode cX11_oneOrTwo 5 = .ok (.getfield 65, 3) := by decide +kernel
theorem dX11_oneOrTwo_8 : decode cX11_oneOrTwo 8 = .ok (.aload_n 0, 1) := by decide +kernel
theorem dX11_oneOrTwo_9 : decode cX11_oneOrTwo 9 = .ok (.getfield 62, 3) := by decide +kernel
theorem dX11_oneOrTwo_12 : decode cX11_oneOrTwo 12 = .ok (.if_icmp .ge 68, 3) := by decide +kernel
theorem dX11_oneOrTwo_15 : decode cX11_oneOrTwo 15 = .ok (.aload_n 0, 1) := by decide +kernel
theorem dX11_oneOrTwo_16 : decode cX11_oneOrTwo 16 = .ok (.getfield 7, 3) := by decide +kernel
theorem dX11_oneOrTwo_19 : decode cX11_oneOrTwo 19 = .ok (.aload_n 0, 1) := by decide +kernel
theorem dX11_oneOrTwo_20 : decode cX11_oneOrTwo 20 = .ok (.getfield 65, 3) := by decide +kernel
theorem dX11_oneOrTwo_23 : decode cX11_oneOrTwo 23 = .ok (.baload, 1) := by decide +kernel
theorem dX11_oneOrTwo_24 : decode cX11_oneOrTwo 24 = .ok (.i2l, 1) := by decide +kernel
theorem dX11_oneOrTwo_25 : decode cX11_oneOrTwo 25 = .ok (.ldc2_w 68, 3) := by decide +kernel
theorem dX11_oneOrTwo_28 : decode cX11_oneOrTwo 28 = .ok (.ldc2_w 70, 3) := by decide +kernel
theorem dX11_oneOrTwo_31 : decode cX11_oneOrTwo 31 = .ok (.invokestatic 58, 3) := by decide +kernel
theorem dX11_oneOrTwo_34 : decode cX11_oneOrTwo 34 = .ok (.ifCond .eq 46, 3) := by decide +kernel
theorem dX11_oneOrTwo_37 : decode cX11_oneOrTwo 37 = .ok (.iload_n 2, 1) := by decide +kernel
theorem dX11_oneOrTwo_38 : decode cX11_oneOrTwo 38 = .ok (.iconst 2, 1) := by decide +kernel
theorem dX11_oneOrTwo_39 : decode cX11_oneOrTwo 39 = .ok (.if_icmp .ge 23, 3) := by decide +kernel
theorem dX11_oneOrTwo_42 : decode cX11_oneOrTwo 42 = .ok (.bipush 10, 2) := by decide +kernel
theorem dX11_oneOrTwo_44 : decode cX11_oneOrTwo 44 = .ok (.iload_n 1, 1) := by decide +kernel
theorem dX11_oneOrTwo_45 : decode cX11_oneOrTwo 45 = .ok (.imul, 1) := by decide +kernel
theorem dX11_oneOrTwo_46 : decode cX11_oneOrTwo 46 = .ok (.aload_n 0, 1) := by decide +kernel
theorem dX11_oneOrTwo_47 : decode cX11_oneOrTwo 47 = .ok (.getfield 7, 3) := by decide +kernel
theorem dX11_oneOrTwo_50 : decode cX11_oneOrTwo 50 = .ok (.aload_n 0, 1) := by decide +kernel
theorem dX11_oneOrTwo_51 : decode cX11_oneOrTwo 51 = .ok (.getfield 65, 3) := by decide +kernel
theorem dX11_oneOrTwo_54 : decode cX11_oneOrTwo 54 = .ok (.baload, 1) := by decide +kernel
theorem dX11_oneOrTwo_55 : decode cX11_oneOrTwo 55 = .ok (.iadd, 1) := by decide +kernel
theorem dX11_oneOrTwo_56 : decode cX11_oneOrTwo 56 = .ok (.bipush 48, 2) := by decide +kernel
theorem dX11_oneOrTwo_58 : decode cX11_oneOrTwo 58 = .ok (.isub, 1) := by decide +kernel
theorem dX11_oneOrTwo_59 : decode cX11_oneOrTwo 59 = .ok (.goto 4, 3) := by decide +kernel
theorem dX11_oneOrTwo_62 : decode cX11_oneOrTwo 62 = .ok (.iload_n 1, 1) := by decide +kernel
theorem dX11_oneOrTwo_63 : decode cX11_oneOrTwo 63 = .ok (.istore_n 1, 1) := by decide +kernel
theorem dX11_oneOrTwo_64 : decode cX11_oneOrTwo 64 = .ok (.iinc 2 1, 3) := by decide +kernel
theorem dX11_oneOrTwo_67 : decode cX11_oneOrTwo 67 = .ok (.aload_n 0, 1) := by decide +kernel
theorem dX11_oneOrTwo_68 : decode cX11_oneOrTwo 68 = .ok (.dup, 1) := by decide +kernel
theorem dX11_oneOrTwo_69 : decode cX11_oneOrTwo 69 = .ok (.getfield 65, 3) := by decide +kernel
theorem dX11_oneOrTwo_72 : decode cX11_oneOrTwo 72 = .ok (.iconst 1, 1) := by decide +kernel
theorem dX11_oneOrTwo_73 : decode cX11_oneOrTwo 73 = .ok (.iadd, 1) := by decide +kernel
theorem dX11_oneOrTwo_74 : decode cX11_oneOrTwo 74 = .ok (.putfield 65, 3) := by decide +kernel
theorem dX11_oneOrTwo_77 : decode cX11_oneOrTwo 77 = .ok (.goto (-73), 3) := by decide +kernel
theorem dX11_oneOrTwo_80 : decode cX11_oneOrTwo 80 = .ok (.iload_n 2, 1) := by decide +kernel
theorem dX11_oneOrTwo_81 : decode cX11_oneOrTwo 81 = .ok (.i2l, 1) := by decide +kernel
theorem dX11_oneOrTwo_82 : decode cX11_oneOrTwo 82 = .ok (.lconst 1, 1) := by decide +kernel
theorem dX11_oneOrTwo_83 : decode cX11_oneOrTwo 83 = .ok (.ldc2_w 72, 3) := by decide +kernel
theorem dX11_oneOrTwo_86 : decode cX11_oneOrTwo 86 = .ok (.invokestatic 58, 3) := by decide +kernel
theorem dX11_oneOrTwo_89 : decode cX11_oneOrTwo 89 = .ok (.ifCond .eq 7, 3) := by decide +kernel
theorem dX11_oneOrTwo_92 : decode cX11_oneOrTwo 92 = .ok (.iload_n 1, 1) := by decide +kernel
theorem dX11_oneOrTwo_93 : decode cX11_oneOrTwo 93 = .ok (.goto 4, 3) := by decide +kernel
theorem dX11_oneOrTwo_96 : decode cX11_oneOrTwo 96 = .ok (.iconst (-1), 1) := by decide +kernel
theorem dX11_oneOrTwo_97 : decode cX11_oneOrTwo 97 = .ok (.ireturn, 1) := by decide +kernel
set_option maxRecDepth 20000 in
theorem ggX11_isItem_X11_is : GoodIn wsX11_isItem wsX11_is := goodIn_r _ [10, 1, 11, 12, 23, 24, 25, 26, 27, 28, 29, 30, 31, 32, 33, 34, 35, 36, 37, 38, 39, 40, 41, 42, 43] (by decide +kernel) (by decide +kernel)
set_option maxRecDepth 20000 in
theorem gX11_isItem_X11_is : GoodIn wsX11_isItem (wsV RX11 74 RX11 yX11_is wsX11_is) := goodIn_app (goodIn_of _ (by decide +kernel)) ggX11_isItem_X11_is
set_option maxRecDepth 20000 in
theorem ggX11_isItem_X11_oneOrTwo : GoodIn wsX11_isItem wsX11_oneOrTwo := goodIn_r _ [16, 1, 11, 12, 17, 18, 19, 20, 21, 9, 22, 23, 24, 25, 26, 27, 28, 29, 30, 31, 32, 33, 34, 35, 36, 37, 38, 39, 40, 41, 42, 43] (by decide +kernel) (by decide +kernel)
set_option maxRecDepth 20000 in
theorem gX11_isItem_X11_oneOrTwo : GoodIn wsX11_isItem (wsV RX11 78 RX11 yX11_oneOrTwo wsX11_oneOrTwo) := goodIn_app (goodIn_of _ (by decide +kernel)) ggX11_isItem_X11_oneOrTwo
set_option maxRecDepth 20000 in
theorem ggX11_isItem_X11_in : GoodIn wsX11_isItem wsX11_in := goodIn_r _ [22] (by decide +kernel) (by decide +kernel)
set_option maxRecDepth 20000 in
theorem gX11_isItem_X11_in : GoodIn wsX11_isItem (va_wsS RX11 58 yX11_in wsX11_in) := goodIn_app (goodIn_of _ (by decide +kernel)) ggX11_isItem_X11_in
theorem dX11_isItem_0 : decode cX11_isItem 0 = .ok (.aload_n 0, 1) := by decide +kernel
theorem dX11_isItem_1 : decode cX11_isItem 1 = .ok (.bipush 114, 2) := by decide +kernel
theorem dX11_isItem_3 : decode cX11_isItem 3 = .ok (.invokevirtual 74, 3) := by decide +kernel
theorem dX11_isItem_6 : decode cX11_isItem 6 = .ok (.ifCond .ne 5, 3) := by decide +kernel
theorem dX11_isItem_9 : decode cX11_isItem 9 = .ok (.iconst 0, 1) := by decide +kernel
theorem dX11_isItem_10 : decode cX11_isItem 10 = .ok (.ireturn, 1) := by decide +kernel
theorem dX11_isItem_11 : decode cX11_isItem 11 = .ok (.aload_n 0, 1) := by decide +kernel
theorem dX11_isItem_12 : decode cX11_isItem 12 = .ok (.dup, 1) := by decide +kernel
theorem dX11_isItem_13 : decode cX11_isItem 13 = .ok (.getfield 65, 3) := by decide +kernel
theorem dX11_isItem_16 : decode cX11_isItem 16 = .ok (.iconst 1, 1) := by decide +kernel
theorem dX11_isItem_17 : decode cX11_isItem 17 = .ok (.iadd, 1) := by decide +kernel
theorem dX11_isItem_18 : decode cX11_isItem 18 = .ok (.putfield 65, 3) := by decide +kernel
theorem dX11_isItem_21 : decode cX11_isItem 21 = .ok (.aload_n 0, 1) := by decide +kernel
theorem dX11_isItem_22 : decode cX11_isItem 22 = .ok (.invokevirtual 78, 3) := by decide +kernel
theorem dX11_isItem_25 : decode cX11_isItem 25 = .ok (.istore_n 1, 1) := by decide +kernel
theorem dX11_isItem_26 : decode cX11_isItem 26 = .ok (.iload_n 1, 1) := by decide +kernel
theorem dX11_isItem_27 : decode cX11_isItem 27 = .ok (.i2l, 1) := by decide +kernel
theorem dX11_isItem_28 : decode cX11_isItem 28 = .ok (.lconst 0, 1) := by decide +kernel
theorem dX11_isItem_29 : decode cX11_isItem 29 = .ok (.ldc2_w 82, 3) := by decide +kernel
theorem dX11_isItem_32 : decode cX11_isItem 32 = .ok (.invokestatic 58, 3) := by decide +kernel
theorem dX11_isItem_35 : decode cX11_isItem 35 = .ok (.ifCond .eq 12, 3) := by decide +kernel
theorem dX11_isItem_38 : decode cX11_isItem 38 = .ok (.aload_n 0, 1) := by decide +kernel
theorem dX11_isItem_39 : decode cX11_isItem 39 = .ok (.bipush 44, 2) := by decide +kernel
theorem dX11_isItem_41 : decode cX11_isItem 41 = .ok (.invokevirtual 74, 3) := by decide +kernel
theorem dX11_isItem_44 : decode cX11_isItem 44 = .ok (.ifCond .ne 5, 3) := by decide +kernel
theorem dX11_isItem_47 : decode cX11_isItem 47 = .ok (.iconst 0, 1) := by decide +kernel
theorem dX11_isItem_48 : decode cX11_isItem 48 = .ok (.ireturn, 1) := by decide +kernel
theorem dX11_isItem_49 : decode cX11_isItem 49 = .ok (.aload_n 0, 1) := by decide +kernel
theorem dX11_isItem_50 : decode cX11_isItem 50 = .ok (.dup, 1) := by decide +kernel
theorem dX11_isItem_51 : decode cX11_isItem 51 = .ok (.getfield 65, 3) := by decide +kernel
theorem dX11_isItem_54 : decode cX11_isItem 54 = .ok (.iconst 1, 1) := by decide +kernel
theorem dX11_isItem_55 : decode cX11_isItem 55 = .ok (.iadd, 1) := by decide +kernel
theorem dX11_isItem_56 : decode cX11_isItem 56 = .ok (.putfield 65, 3) := by decide +kernel
theorem dX11_isItem_59 : decode cX11_isItem 59 = .ok (.aload_n 0, 1) := by decide +kernel
theorem dX11_isItem_60 : decode cX11_isItem 60 = .ok (.invokevirtual 78, 3) := by decide +kernel
theorem dX11_isItem_63 : decode cX11_isItem 63 = .ok (.istore_n 2, 1) := by decide +kernel
theorem dX11_isItem_64 : decode cX11_isItem 64 = .ok (.iload_n 2, 1) := by decide +kernel
theorem dX11_isItem_65 : decode cX11_isItem 65 = .ok (.i2l, 1) := by decide +kernel
theorem dX11_isItem_66 : decode cX11_isItem 66 = .ok (.lconst 0, 1) := by decide +kernel
theorem dX11_isItem_67 : decode cX11_isItem 67 = .ok (.ldc2_w 84, 3) := by decide +kernel
theorem dX11_isItem_70 : decode cX11_isItem 70 = .ok (.invokestatic 58, 3) := by decide +kernel
theorem dX11_isItem_73 : decode cX11_isItem 73 = .ok (.ifCond .ne 5, 3) := by decide +kernel
theorem dX11_isItem_76 : decode cX11_isItem 76 = .ok (.iconst 0, 1) := by decide +kernel
theorem dX11_isItem_77 : decode cX11_isItem 77 = .ok (.ireturn, 1) := by decide +kernel
theorem dX11_isItem_78 : decode cX11_isItem 78 = .ok (.iload_n 2, 1) := by decide +kernel
theorem dX11_isItem_79 : decode cX11_isItem 79 = .ok (.iconst 2, 1) := by decide +kernel
theorem dX11_isItem_80 : decode cX11_isItem 80 = .ok (.if_icmp .eq 8, 3) := by decide +kernel
theorem dX11_isItem_83 : decode cX11_isItem 83 = .ok (.iload_n 2, 1) := by decide +kernel
theorem dX11_isItem_84 : decode cX11_isItem 84 = .ok (.iconst 4, 1) := by decide +kernel
theorem dX11_isItem_85 : decode cX11_isItem 85 = .ok (.if_icmp .le 7, 3) := by decide +kernel
theorem dX11_isItem_88 : decode cX11_isItem 88 = .ok (.iconst 0, 1) := by decide +kernel
theorem dX11_isItem_89 : decode cX11_isItem 89 = .ok (.goto 4, 3) := by decide +kernel
theorem dX11_isItem_92 : decode cX11_isItem 92 = .ok (.iconst 1, 1) := by decide +kernel
theorem dX11_isItem_93 : decode cX11_isItem 93 = .ok (.istore_n 3, 1) := by decide +kernel
theorem dX11_isItem_94 : decode cX11_isItem 94 = .ok (.iload_n 2, 1) := by decide +kernel
theorem dX11_isItem_95 : decode cX11_isItem 95 = .ok (.iconst 2, 1) := by decide +kernel
theorem dX11_isItem_96 : decode cX11_isItem 96 = .ok (.if_icmp .eq 9, 3) := by decide +kernel
theorem dX11_isItem_99 : decode cX11_isItem 99 = .ok (.iload_n 2, 1) := by decide +kernel
theorem dX11_isItem_100 : decode cX11_isItem 100 = .ok (.bipush 6, 2) := by decide +kernel
theorem dX11_isItem_102 : decode cX11_isItem 102 = .ok (.if_icmp .ne 8, 3) := by decide +kernel
theorem dX11_isItem_105 : decode cX11_isItem 105 = .ok (.bipush 99, 2) := by decide +kernel
theorem dX11_isItem_107 : decode cX11_isItem 107 = .ok (.goto 15, 3) := by decide +kernel
theorem dX11_isItem_110 : decode cX11_isItem 110 = .ok (.iload_n 2, 1) := by decide +kernel
theorem dX11_isItem_111 : decode cX11_isItem 111 = .ok (.iconst 4, 1) := by decide +kernel
theorem dX11_isItem_112 : decode cX11_isItem 112 = .ok (.if_icmp .ne 8, 3) := by decide +kernel
theorem dX11_isItem_115 : decode cX11_isItem 115 = .ok (.bipush 20, 2) := by decide +kernel
theorem dX11_isItem_117 : decode cX11_isItem 117 = .ok (.goto 5, 3) := by decide +kernel
theorem dX11_isItem_120 : decode cX11_isItem 120 = .ok (.bipush 9, 2) := by decide +kernel
theorem dX11_isItem_122 : decode cX11_isItem 122 = .ok (.istore 4, 2) := by decide +kernel
theorem dX11_isItem_124 : decode cX11_isItem 124 = .ok (.iconst 0, 1) := by decide +kernel
theorem dX11_isItem_125 : decode cX11_isItem 125 = .ok (.istore 5, 2) := by decide +kernel
theorem dX11_isItem_127 : decode cX11_isItem 127 = .ok (.aload_n 0, 1) := by decide +kernel
theorem dX11_isItem_128 : decode cX11_isItem 128 = .ok (.bipush 44, 2) := by decide +kernel
theorem dX11_isItem_130 : decode cX11_isItem 130 = .ok (.invokevirtual 74, 3) := by decide +kernel
theorem dX11_isItem_133 : decode cX11_isItem 133 = .ok (.ifCond .eq 64, 3) := by decide +kernel
theorem dX11_isItem_136 : decode cX11_isItem 136 = .ok (.aload_n 0, 1) := by decide +kernel
theorem dX11_isItem_137 : decode cX11_isItem 137 = .ok (.dup, 1) := by decide +kernel
theorem dX11_isItem_138 : decode cX11_isItem 138 = .ok (.getfield 65, 3) := by decide +kernel
theorem dX11_isItem_141 : decode cX11_isItem 141 = .ok (.iconst 1, 1) := by decide +kernel
theorem dX11_isItem_142 : decode cX11_isItem 142 = .ok (.iadd, 1) := by decide +kernel
theorem dX11_isItem_143 : decode cX11_isItem 143 = .ok (.putfield 65, 3) := by decide +kernel
theorem dX11_isItem_146 : decode cX11_isItem 146 = .ok (.aload_n 0, 1) := by decide +kernel
theorem dX11_isItem_147 : decode cX11_isItem 147 = .ok (.invokevirtual 78, 3) := by decide +kernel
theorem dX11_isItem_150 : decode cX11_isItem 150 = .ok (.istore 6, 2) := by decide +kernel
theorem dX11_isItem_152 : decode cX11_isItem 152 = .ok (.iload 5, 2) := by decide +kernel
theorem dX11_isItem_154 : decode cX11_isItem 154 = .ok (.bipush 6, 2) := by decide +kernel
theorem dX11_isItem_156 : decode cX11_isItem 156 = .ok (.if_icmp .eq 17, 3) := by decide +kernel
theorem dX11_isItem_159 : decode cX11_isItem 159 = .ok (.iload 6, 2) := by decide +kernel
theorem dX11_isItem_161 : decode cX11_isItem 161 = .ok (.i2l, 1) := by decide +kernel
theorem dX11_isItem_162 : decode cX11_isItem 162 = .ok (.iload_n 3, 1) := by decide +kernel
theorem dX11_isItem_163 : decode cX11_isItem 163 = .ok (.i2l, 1) := by decide +kernel
theorem dX11_isItem_164 : decode cX11_isItem 164 = .ok (.iload 4, 2) := by decide +kernel
theorem dX11_isItem_166 : decode cX11_isItem 166 = .ok (.i2l, 1) := by decide +kernel
theorem dX11_isItem_167 : decode cX11_isItem 167 = .ok (.invokestatic 58, 3) := by decide +kernel
theorem dX11_isItem_170 : decode cX11_isItem 170 = .ok (.ifCond .ne 5, 3) := by decide +kernel
theorem dX11_isItem_173 : decode cX11_isItem 173 = .ok (.iconst 0, 1) := by decide +kernel
theorem dX11_isItem_174 : decode cX11_isItem 174 = .ok (.ireturn, 1) := by decide +kernel
theorem dX11_isItem_175 : decode cX11_isItem 175 = .ok (.aload_n 0, 1) := by decide +kernel
theorem dX11_isItem_176 : decode cX11_isItem 176 = .ok (.getfield 17, 3) := by decide +kernel
theorem dX11_isItem_179 : decode cX11_isItem 179 = .ok (.bipush 8, 2) := by decide +kernel
theorem dX11_isItem_181 : decode cX11_isItem 181 = .ok (.iload_n 1, 1) := by decide +kernel
theorem dX11_isItem_182 : decode cX11_isItem 182 = .ok (.imul, 1) := by decide +kernel
theorem dX11_isItem_183 : decode cX11_isItem 183 = .ok (.iconst 2, 1) := by decide +kernel
theorem dX11_isItem_184 : decode cX11_isItem 184 = .ok (.iadd, 1) := by decide +kernel
theorem dX11_isItem_185 : decode cX11_isItem 185 = .ok (.iload 5, 2) := by decide +kernel
theorem dX11_isItem_187 : decode cX11_isItem 187 = .ok (.iadd, 1) := by decide +kernel
theorem dX11_isItem_188 : decode cX11_isItem 188 = .ok (.iload 6, 2) := by decide +kernel
theorem dX11_isItem_190 : decode cX11_isItem 190 = .ok (.iastore, 1) := by decide +kernel
theorem dX11_isItem_191 : decode cX11_isItem 191 = .ok (.iinc 5 1, 3) := by decide +kernel
theorem dX11_isItem_194 : decode cX11_isItem 194 = .ok (.goto (-67), 3) := by decide +kernel
theorem dX11_isItem_197 : decode cX11_isItem 197 = .ok (.iload_n 2, 1) := by decide +kernel
theorem dX11_isItem_198 : decode cX11_isItem 198 = .ok (.iconst 2, 1) := by decide +kernel
theorem dX11_isItem_199 : decode cX11_isItem 199 = .ok (.if_icmp .ge 17, 3) := by decide +kernel
theorem dX11_isItem_202 : decode cX11_isItem 202 = .ok (.iload 5, 2) := by decide +kernel
theorem dX11_isItem_204 : decode cX11_isItem 204 = .ok (.iconst 1, 1) := by decide +kernel
theorem dX11_isItem_205 : decode cX11_isItem 205 = .ok (.if_icmp .le 7, 3) := by decide +kernel
theorem dX11_isItem_208 : decode cX11_isItem 208 = .ok (.iconst 1, 1) := by decide +kernel
theorem dX11_isItem_209 : decode cX11_isItem 209 = .ok (.goto 67, 3) := by decide +kernel
theorem dX11_isItem_212 : decode cX11_isItem 212 = .ok (.iconst 0, 1) := by decide +kernel
theorem dX11_isItem_213 : decode cX11_isItem 213 = .ok (.goto 63, 3) := by decide +kernel
theorem dX11_isItem_216 : decode cX11_isItem 216 = .ok (.iload_n 2, 1) := by decide +kernel
theorem dX11_isItem_217 : decode cX11_isItem 217 = .ok (.iconst 4, 1) := by decide +kernel
theorem dX11_isItem_218 : decode cX11_isItem 218 = .ok (.if_icmp .ne 42, 3) := by decide +kernel
theorem dX11_isItem_221 : decode cX11_isItem 221 = .ok (.iload 5, 2) := by decide +kernel
theorem dX11_isItem_223 : decode cX11_isItem 223 = .ok (.iconst 2, 1) := by decide +kernel
theorem dX11_isItem_224 : decode cX11_isItem 224 = .ok (.if_icmp .ne 32, 3) := by decide +kernel
theorem dX11_isItem_227 : decode cX11_isItem 227 = .ok (.aload_n 0, 1) := by decide +kernel
theorem dX11_isItem_228 : decode cX11_isItem 228 = .ok (.getfield 17, 3) := by decide +kernel
theorem dX11_isItem_231 : decode cX11_isItem 231 = .ok (.bipush 8, 2) := by decide +kernel
theorem dX11_isItem_233 : decode cX11_isItem 233 = .ok (.iload_n 1, 1) := by decide +kernel
theorem dX11_isItem_234 : decode cX11_isItem 234 = .ok (.imul, 1) := by decide +kernel
theorem dX11_isItem_235 : decode cX11_isItem 235 = .ok (.iconst 3, 1) := by decide +kernel
theorem dX11_isItem_236 : decode cX11_isItem 236 = .ok (.iadd, 1) := by decide +kernel
theorem dX11_isItem_237 : decode cX11_isItem 237 = .ok (.iaload, 1) := by decide +kernel
theorem dX11_isItem_238 : decode cX11_isItem 238 = .ok (.aload_n 0, 1) := by decide +kernel
theorem dX11_isItem_239 : decode cX11_isItem 239 = .ok (.getfield 17, 3) := by decide +kernel
theorem dX11_isItem_242 : decode cX11_isItem 242 = .ok (.bipush 8, 2) := by decide +kernel
theorem dX11_isItem_244 : decode cX11_isItem 244 = .ok (.iload_n 1, 1) := by decide +kernel
theorem dX11_isItem_245 : decode cX11_isItem 245 = .ok (.imul, 1) := by decide +kernel
theorem dX11_isItem_246 : decode cX11_isItem 246 = .ok (.iconst 2, 1) := by decide +kernel
theorem dX11_isItem_247 : decode cX11_isItem 247 = .ok (.iadd, 1) := by decide +kernel
theorem dX11_isItem_248 : decode cX11_isItem 248 = .ok (.iaload, 1) := by decide +kernel
theorem dX11_isItem_249 : decode cX11_isItem 249 = .ok (.if_icmp .le 7, 3) := by decide +kernel
theorem dX11_isItem_252 : decode cX11_isItem 252 = .ok (.iconst 1, 1) := by decide +kernel
theorem dX11_isItem_253 : decode cX11_isItem 253 = .ok (.goto 23, 3) := by decide +kernel
theorem dX11_isItem_256 : decode cX11_isItem 256 = .ok (.iconst 0, 1) := by decide +kernel
theorem dX11_isItem_257 : decode cX11_isItem 257 = .ok (.goto 19, 3) := by decide +kernel
theorem dX11_isItem_260 : decode cX11_isItem 260 = .ok (.iload_n 2, 1) := by decide +kernel
theorem dX11_isItem_261 : decode cX11_isItem 261 = .ok (.bipush 6, 2) := by decide +kernel
theorem dX11_isItem_263 : decode cX11_isItem 263 = .ok (.if_icmp .eq 8, 3) := by decide +kernel
theorem dX11_isItem_266 : decode cX11_isItem 266 = .ok (.iload 5, 2) := by decide +kernel
theorem dX11_isItem_268 : decode cX11_isItem 268 = .ok (.ifCond .le 7, 3) := by decide +kernel
theorem dX11_isItem_271 : decode cX11_isItem 271 = .ok (.iconst 1, 1) := by decide +kernel
theorem dX11_isItem_272 : decode cX11_isItem 272 = .ok (.goto 4, 3) := by decide +kernel
theorem dX11_isItem_275 : decode cX11_isItem 275 = .ok (.iconst 0, 1) := by decide +kernel
theorem dX11_isItem_276 : decode cX11_isItem 276 = .ok (.istore 6, 2) := by decide +kernel
theorem dX11_isItem_278 : decode cX11_isItem 278 = .ok (.iload 6, 2) := by decide +kernel
theorem dX11_isItem_280 : decode cX11_isItem 280 = .ok (.ifCond .eq 12, 3) := by decide +kernel
theorem dX11_isItem_283 : decode cX11_isItem 283 = .ok (.aload_n 0, 1) := by decide +kernel
theorem dX11_isItem_284 : decode cX11_isItem 284 = .ok (.bipush 59, 2) := by decide +kernel
theorem dX11_isItem_286 : decode cX11_isItem 286 = .ok (.invokevirtual 74, 3) := by decide +kernel
theorem dX11_isItem_289 : decode cX11_isItem 289 = .ok (.ifCond .ne 5, 3) := by decide +kernel
theorem dX11_isItem_292 : decode cX11_isItem 292 = .ok (.iconst 0, 1) := by decide +kernel
theorem dX11_isItem_293 : decode cX11_isItem 293 = .ok (.ireturn, 1) := by decide +kernel
theorem dX11_isItem_294 : decode cX11_isItem 294 = .ok (.aload_n 0, 1) := by decide +kernel
theorem dX11_isItem_295 : decode cX11_isItem 295 = .ok (.dup, 1) := by decide +kernel
theorem dX11_isItem_296 : decode cX11_isItem 296 = .ok (.getfield 65, 3) := by decide +kernel
theorem dX11_isItem_299 : decode cX11_isItem 299 = .ok (.iconst 1, 1) := by decide +kernel
theorem dX11_isItem_300 : decode cX11_isItem 300 = .ok (.iadd, 1) := by decide +kernel
theorem dX11_isItem_301 : decode cX11_isItem 301 = .ok (.putfield 65, 3) := by decide +kernel
theorem dX11_isItem_304 : decode cX11_isItem 304 = .ok (.aload_n 0, 1) := by decide +kernel
theorem dX11_isItem_305 : decode cX11_isItem 305 = .ok (.getfield 17, 3) := by decide +kernel
theorem dX11_isItem_308 : decode cX11_isItem 308 = .ok (.bipush 8, 2) := by decide +kernel
theorem dX11_isItem_310 : decode cX11_isItem 310 = .ok (.iload_n 1, 1) := by decide +kernel
theorem dX11_isItem_311 : decode cX11_isItem 311 = .ok (.imul, 1) := by decide +kernel
theorem dX11_isItem_312 : decode cX11_isItem 312 = .ok (.iload_n 2, 1) := by decide +kernel
theorem dX11_isItem_313 : decode cX11_isItem 313 = .ok (.iastore, 1) := by decide +kernel
theorem dX11_isItem_314 : decode cX11_isItem 314 = .ok (.aload_n 0, 1) := by decide +kernel
theorem dX11_isItem_315 : decode cX11_isItem 315 = .ok (.getfield 17, 3) := by decide +kernel
theorem dX11_isItem_318 : decode cX11_isItem 318 = .ok (.bipush 8, 2) := by decide +kernel
theorem dX11_isItem_320 : decode cX11_isItem 320 = .ok (.iload_n 1, 1) := by decide +kernel
theorem dX11_isItem_321 : decode cX11_isItem 321 = .ok (.imul, 1) := by decide +kernel
theorem dX11_isItem_322 : decode cX11_isItem 322 = .ok (.iconst 1, 1) := by decide +kernel
theorem dX11_isItem_323 : decode cX11_isItem 323 = .ok (.iadd, 1) := by decide +kernel
theorem dX11_isItem_324 : decode cX11_isItem 324 = .ok (.iload 5, 2) := by decide +kernel
theorem dX11_isItem_326 : decode cX11_isItem 326 = .ok (.iastore, 1) := by decide +kernel
theorem dX11_isItem_327 : decode cX11_isItem 327 = .ok (.aload_n 0, 1) := by decide +kernel
theorem dX11_isItem_328 : decode cX11_isItem 328 = .ok (.dup, 1) := by decide +kernel
theorem dX11_isItem_329 : decode cX11_isItem 329 = .ok (.getfield 86, 3) := by decide +kernel
theorem dX11_isItem_332 : decode cX11_isItem 332 = .ok (.iconst 1, 1) := by decide +kernel
theorem dX11_isItem_333 : decode cX11_isItem 333 = .ok (.iadd, 1) := by decide +kernel
theorem dX11_isItem_334 : decode cX11_isItem 334 = .ok (.putfield 86, 3) := by decide +kernel
theorem dX11_isItem_337 : decode cX11_isItem 337 = .ok (.iconst 1, 1) := by decide +kernel
theorem dX11_isItem_338 : decode cX11_isItem 338 = .ok (.ireturn, 1) := by decide +kernel
set_option maxRecDepth 20000 in
theorem ggX11_fault_X11_isItem : GoodIn wsX11_fault wsX11_isItem := goodIn_r _ [10, 1, 11, 12, 3, 2, 13, 14, 15, 9, 16, 5, 17, 18, 19, 20, 21, 22, 23, 24, 25, 26, 27, 28, 29, 30, 31, 32, 33, 34, 35, 36, 37, 38, 39, 40, 41, 42, 43, 44, 45, 46, 47, 48] (by decide +kernel) (by decide +kernel)
set_option maxRecDepth 20000 in
theorem gX11_fault_X11_isItem : GoodIn wsX11_fault (wsV RX11 89 RX11 yX11_isItem wsX11_isItem) := goodIn_app (goodIn_of _ (by decide +kernel)) ggX11_fault_X11_isItem
theorem dX11_fault_0 : decode cX11_fault 0 = .ok (.aload_n 0, 1) := by decide +kernel
theorem dX11_fault_1 : decode cX11_fault 1 = .ok (.iconst 0, 1) := by decide +kernel
theorem dX11_fault_2 : decode cX11_fault 2 = .ok (.putfield 65, 3) := by decide +kernel
theorem dX11_fault_5 : decode cX11_fault 5 = .ok (.aload_n 0, 1) := by decide +kernel
theorem dX11_fault_6 : decode cX11_fault 6 = .ok (.iconst 0, 1) := by decide +kernel
theorem dX11_fault_7 : decode cX11_fault 7 = .ok (.putfield 86, 3) := by decide +kernel
theorem dX11_fault_10 : decode cX11_fault 10 = .ok (.iconst 0, 1) := by decide +kernel
theorem dX11_fault_11 : decode cX11_fault 11 = .ok (.istore_n 1, 1) := by decide +kernel
theorem dX11_fault_12 : decode cX11_fault 12 = .ok (.iload_n 1, 1) := by decide +kernel
theorem dX11_fault_13 : decode cX11_fault 13 = .ok (.bipush 32, 2) := by decide +kernel
theorem dX11_fault_15 : decode cX11_fault 15 = .ok (.if_icmp .ge 21, 3) := by decide +kernel
theorem dX11_fault_18 : decode cX11_fault 18 = .ok (.aload_n 0, 1) := by decide +kernel
theorem dX11_fault_19 : decode cX11_fault 19 = .ok (.getfield 17, 3) := by decide +kernel
theorem dX11_fault_22 : decode cX11_fault 22 = .ok (.iload_n 1, 1) := by decide +kernel
theorem dX11_fault_23 : decode cX11_fault 23 = .ok (.aload_n 0, 1) := by decide +kernel
theorem dX11_fault_24 : decode cX11_fault 24 = .ok (.getfield 13, 3) := by decide +kernel
theorem dX11_fault_27 : decode cX11_fault 27 = .ok (.iload_n 1, 1) := by decide +kernel
theorem dX11_fault_28 : decode cX11_fault 28 = .ok (.iaload, 1) := by decide +kernel
theorem dX11_fault_29 : decode cX11_fault 29 = .ok (.iastore, 1) := by decide +kernel
theorem dX11_fault_30 : decode cX11_fault 30 = .ok (.iinc 1 1, 3) := by decide +kernel
theorem dX11_fault_33 : decode cX11_fault 33 = .ok (.goto (-21), 3) := by decide +kernel
theorem dX11_fault_36 : decode cX11_fault 36 = .ok (.aload_n 0, 1) := by decide +kernel
theorem dX11_fault_37 : decode cX11_fault 37 = .ok (.getfield 65, 3) := by decide +kernel
theorem dX11_fault_40 : decode cX11_fault 40 = .ok (.aload_n 0, 1) := by decide +kernel
theorem dX11_fault_41 : decode cX11_fault 41 = .ok (.getfield 62, 3) := by decide +kernel
theorem dX11_fault_44 : decode cX11_fault 44 = .ok (.if_icmp .ge 20, 3) := by decide +kernel
theorem dX11_fault_47 : decode cX11_fault 47 = .ok (.aload_n 0, 1) := by decide +kernel
theorem dX11_fault_48 : decode cX11_fault 48 = .ok (.getfield 65, 3) := by decide +kernel
theorem dX11_fault_51 : decode cX11_fault 51 = .ok (.istore_n 1, 1) := by decide +kernel
theorem dX11_fault_52 : decode cX11_fault 52 = .ok (.aload_n 0, 1) := by decide +kernel
theorem dX11_fault_53 : decode cX11_fault 53 = .ok (.invokevirtual 89, 3) := by decide +kernel
theorem dX11_fault_56 : decode cX11_fault 56 = .ok (.ifCond .ne 5, 3) := by decide +kernel
theorem dX11_fault_59 : decode cX11_fault 59 = .ok (.iload_n 1, 1) := by decide +kernel
theorem dX11_fault_60 : decode cX11_fault 60 = .ok (.ireturn, 1) := by decide +kernel
theorem dX11_fault_61 : decode cX11_fault 61 = .ok (.goto (-25), 3) := by decide +kernel
theorem dX11_fault_64 : decode cX11_fault 64 = .ok (.bipush (-4), 2) := by decide +kernel
theorem dX11_fault_66 : decode cX11_fault 66 = .ok (.ireturn, 1) := by decide +kernel
set_option maxRecDepth 20000 in
theorem ggX11_lay_X11_fault : GoodIn wsX11_lay wsX11_fault := goodIn_r _ [9, 10, 4, 2, 1, 11, 12, 13, 14, 8, 15, 16, 17, 18, 19, 20, 21, 22, 23, 24, 25, 26, 27, 28, 29, 30, 31, 32, 33, 34, 35, 36, 37, 38, 39, 40, 41, 42, 43, 44, 45, 46, 47, 48, 49, 50, 51, 52, 53] (by decide +kernel) (by decide +kernel)
set_option maxRecDepth 20000 in
theorem gX11_lay_X11_fault : GoodIn wsX11_lay (wsV RX11 93 RX11 yX11_fault wsX11_fault) := goodIn_app (goodIn_of _ (by decide +kernel)) ggX11_lay_X11_fault
theorem dX11_lay_0 : decode cX11_lay 0 = .ok (.aload_n 0, 1) := by decide +kernel
theorem dX11_lay_1 : decode cX11_lay 1 = .ok (.invokevirtual 93, 3) := by decide +kernel
theorem dX11_lay_4 : decode cX11_lay 4 = .ok (.bipush (-4), 2) := by decide +kernel
theorem dX11_lay_6 : decode cX11_lay 6 = .ok (.if_icmp .eq 6, 3) := by decide +kernel
theorem dX11_lay_9 : decode cX11_lay 9 = .ok (.bipush (-2), 2) := by decide +kernel
theorem dX11_lay_11 : decode cX11_lay 11 = .ok (.ireturn, 1) := by decide +kernel
theorem dX11_lay_12 : decode cX11_lay 12 = .ok (.iconst 0, 1) := by decide +kernel
theorem dX11_lay_13 : decode cX11_lay 13 = .ok (.istore_n 1, 1) := by decide +kernel
theorem dX11_lay_14 : decode cX11_lay 14 = .ok (.iload_n 1, 1) := by decide +kernel
theorem dX11_lay_15 : decode cX11_lay 15 = .ok (.bipush 32, 2) := by decide +kernel
theorem dX11_lay_17 : decode cX11_lay 17 = .ok (.if_icmp .ge 21, 3) := by decide +kernel
theorem dX11_lay_20 : decode cX11_lay 20 = .ok (.aload_n 0, 1) := by decide +kernel
theorem dX11_lay_21 : decode cX11_lay 21 = .ok (.getfield 13, 3) := by decide +kernel
theorem dX11_lay_24 : decode cX11_lay 24 = .ok (.iload_n 1, 1) := by decide +kernel
theorem dX11_lay_25 : decode cX11_lay 25 = .ok (.aload_n 0, 1) := by decide +kernel
theorem dX11_lay_26 : decode cX11_lay 26 = .ok (.getfield 17, 3) := by decide +kernel
theorem dX11_lay_29 : decode cX11_lay 29 = .ok (.iload_n 1, 1) := by decide +kernel
theorem dX11_lay_30 : decode cX11_lay 30 = .ok (.iaload, 1) := by decide +kernel
theorem dX11_lay_31 : decode cX11_lay 31 = .ok (.iastore, 1) := by decide +kernel
theorem dX11_lay_32 : decode cX11_lay 32 = .ok (.iinc 1 1, 3) := by decide +kernel
theorem dX11_lay_35 : decode cX11_lay 35 = .ok (.goto (-21), 3) := by decide +kernel
theorem dX11_lay_38 : decode cX11_lay 38 = .ok (.aload_n 0, 1) := by decide +kernel
theorem dX11_lay_39 : decode cX11_lay 39 = .ok (.iconst (-1), 1) := by decide +kernel
theorem dX11_lay_40 : decode cX11_lay 40 = .ok (.putfield 20, 3) := by decide +kernel
theorem dX11_lay_43 : decode cX11_lay 43 = .ok (.aload_n 0, 1) := by decide +kernel
theorem dX11_lay_44 : decode cX11_lay 44 = .ok (.getfield 86, 3) := by decide +kernel
theorem dX11_lay_47 : decode cX11_lay 47 = .ok (.ireturn, 1) := by decide +kernel
set_option maxRecDepth 20000 in
theorem ggX11_isRegister_X11_in : GoodIn wsX11_isRegister wsX11_in := goodIn_r _ [5] (by decide +kernel) (by decide +kernel)
set_option maxRecDepth 20000 in
theorem gX11_isRegister_X11_in : GoodIn wsX11_isRegister (va_wsS RX11 58 yX11_in wsX11_in) := goodIn_app (goodIn_of _ (by decide +kernel)) ggX11_isRegister_X11_in
theorem dX11_isRegister_0 : decode cX11_isRegister 0 = .ok (.iload_n 0, 1) := by decide +kernel
theorem dX11_isRegister_1 : decode cX11_isRegister 1 = .ok (.i2l, 1) := by decide +kernel
theorem dX11_isRegister_2 : decode cX11_isRegister 2 = .ok (.lconst 0, 1) := by decide +kernel
theorem dX11_isRegister_3 : decode cX11_isRegister 3 = .ok (.ldc2_w 82, 3) := by decide +kernel
theorem dX11_isRegister_6 : decode cX11_isRegister 6 = .ok (.invokestatic 58, 3) := by decide +kernel
theorem dX11_isRegister_9 : decode cX11_isRegister 9 = .ok (.ireturn, 1) := by decide +kernel
set_option maxRecDepth 20000 in
theorem ggX11_told_X11_isRegister : GoodIn wsX11_told wsX11_isRegister := goodIn_r _ [6, 7, 8, 9, 5, 10] (by decide +kernel) (by decide +kernel)
set_option maxRecDepth 20000 in
theorem gX11_told_X11_isRegister : GoodIn wsX11_told (va_wsS RX11 96 yX11_isRegister wsX11_isRegister) := goodIn_app (goodIn_of _ (by decide +kernel)) ggX11_told_X11_isRegister
set_option maxRecDepth 20000 in
theorem ggX11_told_X11_in : GoodIn wsX11_told wsX11_in := goodIn_r _ [10] (by decide +kernel) (by decide +kernel)
set_option maxRecDepth 20000 in
theorem gX11_told_X11_in : GoodIn wsX11_told (va_wsS RX11 58 yX11_in wsX11_in) := goodIn_app (goodIn_of _ (by decide +kernel)) ggX11_told_X11_in
theorem dX11_told_0 : decode cX11_told 0 = .ok (.iload_n 1, 1) := by decide +kernel
theorem dX11_told_1 : decode cX11_told 1 = .ok (.invokestatic 96, 3) := by decide +kernel
theorem dX11_told_4 : decode cX11_told 4 = .ok (.ifCond .eq 15, 3) := by decide +kernel
theorem dX11_told_7 : decode cX11_told 7 = .ok (.iload_n 2, 1) := by decide +kernel
theorem dX11_told_8 : decode cX11_told 8 = .ok (.i2l, 1) := by decide +kernel
theorem dX11_told_9 : decode cX11_told 9 = .ok (.lconst 0, 1) := by decide +kernel
theorem dX11_told_10 : decode cX11_told 10 = .ok (.ldc2_w 99, 3) := by decide +kernel
theorem dX11_told_13 : decode cX11_told 13 = .ok (.invokestatic 58, 3) := by decide +kernel
theorem dX11_told_16 : decode cX11_told 16 = .ok (.ifCond .ne 5, 3) := by decide +kernel
theorem dX11_told_19 : decode cX11_told 19 = .ok (.iconst (-1), 1) := by decide +kernel
theorem dX11_told_20 : decode cX11_told 20 = .ok (.ireturn, 1) := by decide +kernel
theorem dX11_told_21 : decode cX11_told 21 = .ok (.iload_n 2, 1) := by decide +kernel
theorem dX11_told_22 : decode cX11_told 22 = .ok (.iconst 2, 1) := by decide +kernel
theorem dX11_told_23 : decode cX11_told 23 = .ok (.if_icmp .ge 17, 3) := by decide +kernel
theorem dX11_told_26 : decode cX11_told 26 = .ok (.aload_n 0, 1) := by decide +kernel
theorem dX11_told_27 : decode cX11_told 27 = .ok (.getfield 13, 3) := by decide +kernel
theorem dX11_told_30 : decode cX11_told 30 = .ok (.bipush 8, 2) := by decide +kernel
theorem dX11_told_32 : decode cX11_told 32 = .ok (.iload_n 1, 1) := by decide +kernel
theorem dX11_told_33 : decode cX11_told 33 = .ok (.imul, 1) := by decide +kernel
theorem dX11_told_34 : decode cX11_told 34 = .ok (.iload_n 2, 1) := by decide +kernel
theorem dX11_told_35 : decode cX11_told 35 = .ok (.iadd, 1) := by decide +kernel
theorem dX11_told_36 : decode cX11_told 36 = .ok (.iaload, 1) := by decide +kernel
theorem dX11_told_37 : decode cX11_told 37 = .ok (.goto 36, 3) := by decide +kernel
theorem dX11_told_40 : decode cX11_told 40 = .ok (.iload_n 2, 1) := by decide +kernel
theorem dX11_told_41 : decode cX11_told 41 = .ok (.iconst 2, 1) := by decide +kernel
theorem dX11_told_42 : decode cX11_told 42 = .ok (.isub, 1) := by decide +kernel
theorem dX11_told_43 : decode cX11_told 43 = .ok (.aload_n 0, 1) := by decide +kernel
theorem dX11_told_44 : decode cX11_told 44 = .ok (.getfield 13, 3) := by decide +kernel
theorem dX11_told_47 : decode cX11_told 47 = .ok (.bipush 8, 2) := by decide +kernel
theorem dX11_told_49 : decode cX11_told 49 = .ok (.iload_n 1, 1) := by decide +kernel
theorem dX11_told_50 : decode cX11_told 50 = .ok (.imul, 1) := by decide +kernel
theorem dX11_told_51 : decode cX11_told 51 = .ok (.iconst 1, 1) := by decide +kernel
theorem dX11_told_52 : decode cX11_told 52 = .ok (.iadd, 1) := by decide +kernel
theorem dX11_told_53 : decode cX11_told 53 = .ok (.iaload, 1) := by decide +kernel
theorem dX11_told_54 : decode cX11_told 54 = .ok (.if_icmp .ge 17, 3) := by decide +kernel
theorem dX11_told_57 : decode cX11_told 57 = .ok (.aload_n 0, 1) := by decide +kernel
theorem dX11_told_58 : decode cX11_told 58 = .ok (.getfield 13, 3) := by decide +kernel
theorem dX11_told_61 : decode cX11_told 61 = .ok (.bipush 8, 2) := by decide +kernel
theorem dX11_told_63 : decode cX11_told 63 = .ok (.iload_n 1, 1) := by decide +kernel
theorem dX11_told_64 : decode cX11_told 64 = .ok (.imul, 1) := by decide +kernel
theorem dX11_told_65 : decode cX11_told 65 = .ok (.iload_n 2, 1) := by decide +kernel
theorem dX11_told_66 : decode cX11_told 66 = .ok (.iadd, 1) := by decide +kernel
theorem dX11_told_67 : decode cX11_told 67 = .ok (.iaload, 1) := by decide +kernel
theorem dX11_told_68 : decode cX11_told 68 = .ok (.goto 5, 3) := by decide +kernel
theorem dX11_told_71 : decode cX11_told 71 = .ok (.bipush (-4), 2) := by decide +kernel
theorem dX11_told_73 : decode cX11_told 73 = .ok (.ireturn, 1) := by decide +kernel
set_option maxRecDepth 20000 in
theorem ggX11_lays_X11_comes : GoodIn wsX11_lays wsX11_comes := goodIn_r _ [11, 5, 6, 4, 32, 33, 34, 35, 36, 37, 38, 39, 40, 41, 42, 43, 44, 45, 46, 47, 48, 49, 50, 51, 52] (by decide +kernel) (by decide +kernel)
set_option maxRecDepth 20000 in
theorem gX11_lays_X11_comes : GoodIn wsX11_lays (wsV RX11 105 RX11 yX11_comes wsX11_comes) := goodIn_app (goodIn_of _ (by decide +kernel)) ggX11_lays_X11_comes
set_option maxRecDepth 20000 in
theorem ggX11_lays_X11_next : GoodIn wsX11_lays wsX11_next := goodIn_r _ [15, 3, 6, 5, 4, 16, 17, 18, 10, 19, 20, 21, 22, 23, 24, 25, 26, 27, 28, 29, 30, 31, 32, 33, 34, 35, 36, 37, 38, 39, 40, 41, 42, 43, 44, 45, 46, 47, 48, 49, 50, 51, 52] (by decide +kernel) (by decide +kernel)
set_option maxRecDepth 20000 in
theorem gX11_lays_X11_next : GoodIn wsX11_lays (wsV RX11 109 RX11 yX11_next wsX11_next) := goodIn_app (goodIn_of _ (by decide +kernel)) ggX11_lays_X11_next
theorem dX11_lays_0 : decode cX11_lays 0 = .ok (.aload_n 0, 1) := by decide +kernel
theorem dX11_lays_1 : decode cX11_lays 1 = .ok (.getfield 20, 3) := by decide +kernel
theorem dX11_lays_4 : decode cX11_lays 4 = .ok (.iload_n 1, 1) := by decide +kernel
theorem dX11_lays_5 : decode cX11_lays 5 = .ok (.if_icmp .ne 4, 3) := by decide +kernel
theorem dX11_lays_8 : decode cX11_lays 8 = .ok (.return_, 1) := by decide +kernel
theorem dX11_lays_9 : decode cX11_lays 9 = .ok (.aload_n 0, 1) := by decide +kernel
theorem dX11_lays_10 : decode cX11_lays 10 = .ok (.iload_n 1, 1) := by decide +kernel
theorem dX11_lays_11 : decode cX11_lays 11 = .ok (.putfield 20, 3) := by decide +kernel
theorem dX11_lays_14 : decode cX11_lays 14 = .ok (.aload_n 0, 1) := by decide +kernel
theorem dX11_lays_15 : decode cX11_lays 15 = .ok (.aload_n 0, 1) := by decide +kernel
theorem dX11_lays_16 : decode cX11_lays 16 = .ok (.getfield 13, 3) := by decide +kernel
theorem dX11_lays_19 : decode cX11_lays 19 = .ok (.bipush 8, 2) := by decide +kernel
theorem dX11_lays_21 : decode cX11_lays 21 = .ok (.iload_n 1, 1) := by decide +kernel
theorem dX11_lays_22 : decode cX11_lays 22 = .ok (.imul, 1) := by decide +kernel
theorem dX11_lays_23 : decode cX11_lays 23 = .ok (.iconst 1, 1) := by decide +kernel
theorem dX11_lays_24 : decode cX11_lays 24 = .ok (.iadd, 1) := by decide +kernel
theorem dX11_lays_25 : decode cX11_lays 25 = .ok (.iaload, 1) := by decide +kernel
theorem dX11_lays_26 : decode cX11_lays 26 = .ok (.putfield 101, 3) := by decide +kernel
theorem dX11_lays_29 : decode cX11_lays 29 = .ok (.iconst 0, 1) := by decide +kernel
theorem dX11_lays_30 : decode cX11_lays 30 = .ok (.istore_n 2, 1) := by decide +kernel
theorem dX11_lays_31 : decode cX11_lays 31 = .ok (.iload_n 2, 1) := by decide +kernel
theorem dX11_lays_32 : decode cX11_lays 32 = .ok (.ldc 104, 2) := by decide +kernel
theorem dX11_lays_34 : decode cX11_lays 34 = .ok (.if_icmp .gt 16, 3) := by decide +kernel
theorem dX11_lays_37 : decode cX11_lays 37 = .ok (.aload_n 0, 1) := by decide +kernel
theorem dX11_lays_38 : decode cX11_lays 38 = .ok (.getfield 28, 3) := by decide +kernel
theorem dX11_lays_41 : decode cX11_lays 41 = .ok (.iload_n 2, 1) := by decide +kernel
theorem dX11_lays_42 : decode cX11_lays 42 = .ok (.iconst 0, 1) := by decide +kernel
theorem dX11_lays_43 : decode cX11_lays 43 = .ok (.iastore, 1) := by decide +kernel
theorem dX11_lays_44 : decode cX11_lays 44 = .ok (.iinc 2 1, 3) := by decide +kernel
theorem dX11_lays_47 : decode cX11_lays 47 = .ok (.goto (-16), 3) := by decide +kernel
theorem dX11_lays_50 : decode cX11_lays 50 = .ok (.iconst 0, 1) := by decide +kernel
theorem dX11_lays_51 : decode cX11_lays 51 = .ok (.istore_n 2, 1) := by decide +kernel
theorem dX11_lays_52 : decode cX11_lays 52 = .ok (.iload_n 2, 1) := by decide +kernel
theorem dX11_lays_53 : decode cX11_lays 53 = .ok (.aload_n 0, 1) := by decide +kernel
theorem dX11_lays_54 : decode cX11_lays 54 = .ok (.getfield 101, 3) := by decide +kernel
theorem dX11_lays_57 : decode cX11_lays 57 = .ok (.if_icmp .ge 42, 3) := by decide +kernel
theorem dX11_lays_60 : decode cX11_lays 60 = .ok (.aload_n 0, 1) := by decide +kernel
theorem dX11_lays_61 : decode cX11_lays 61 = .ok (.getfield 24, 3) := by decide +kernel
theorem dX11_lays_64 : decode cX11_lays 64 = .ok (.iload_n 2, 1) := by decide +kernel
theorem dX11_lays_65 : decode cX11_lays 65 = .ok (.aload_n 0, 1) := by decide +kernel
theorem dX11_lays_66 : decode cX11_lays 66 = .ok (.getfield 13, 3) := by decide +kernel
theorem dX11_lays_69 : decode cX11_lays 69 = .ok (.bipush 8, 2) := by decide +kernel
theorem dX11_lays_71 : decode cX11_lays 71 = .ok (.iload_n 1, 1) := by decide +kernel
theorem dX11_lays_72 : decode cX11_lays 72 = .ok (.imul, 1) := by decide +kernel
theorem dX11_lays_73 : decode cX11_lays 73 = .ok (.iconst 2, 1) := by decide +kernel
theorem dX11_lays_74 : decode cX11_lays 74 = .ok (.iadd, 1) := by decide +kernel
theorem dX11_lays_75 : decode cX11_lays 75 = .ok (.iload_n 2, 1) := by decide +kernel
theorem dX11_lays_76 : decode cX11_lays 76 = .ok (.iadd, 1) := by decide +kernel
theorem dX11_lays_77 : decode cX11_lays 77 = .ok (.iaload, 1) := by decide +kernel
theorem dX11_lays_78 : decode cX11_lays 78 = .ok (.iastore, 1) := by decide +kernel
theorem dX11_lays_79 : decode cX11_lays 79 = .ok (.aload_n 0, 1) := by decide +kernel
theorem dX11_lays_80 : decode cX11_lays 80 = .ok (.aload_n 0, 1) := by decide +kernel
theorem dX11_lays_81 : decode cX11_lays 81 = .ok (.getfield 13, 3) := by decide +kernel
theorem dX11_lays_84 : decode cX11_lays 84 = .ok (.bipush 8, 2) := by decide +kernel
theorem dX11_lays_86 : decode cX11_lays 86 = .ok (.iload_n 1, 1) := by decide +kernel
theorem dX11_lays_87 : decode cX11_lays 87 = .ok (.imul, 1) := by decide +kernel
theorem dX11_lays_88 : decode cX11_lays 88 = .ok (.iaload, 1) := by decide +kernel
theorem dX11_lays_89 : decode cX11_lays 89 = .ok (.iload_n 2, 1) := by decide +kernel
theorem dX11_lays_90 : decode cX11_lays 90 = .ok (.invokevirtual 105, 3) := by decide +kernel
theorem dX11_lays_93 : decode cX11_lays 93 = .ok (.iinc 2 1, 3) := by decide +kernel
theorem dX11_lays_96 : decode cX11_lays 96 = .ok (.goto (-44), 3) := by decide +kernel
theorem dX11_lays_99 : decode cX11_lays 99 = .ok (.iconst 1, 1) := by decide +kernel
theorem dX11_lays_100 : decode cX11_lays 100 = .ok (.istore_n 2, 1) := by decide +kernel
theorem dX11_lays_101 : decode cX11_lays 101 = .ok (.iload_n 2, 1) := by decide +kernel
theorem dX11_lays_102 : decode cX11_lays 102 = .ok (.ifCond .eq 81, 3) := by decide +kernel
theorem dX11_lays_105 : decode cX11_lays 105 = .ok (.aload_n 0, 1) := by decide +kernel
theorem dX11_lays_106 : decode cX11_lays 106 = .ok (.getfield 101, 3) := by decide +kernel
theorem dX11_lays_109 : decode cX11_lays 109 = .ok (.sipush 2000, 3) := by decide +kernel
theorem dX11_lays_112 : decode cX11_lays 112 = .ok (.if_icmp .ge 71, 3) := by decide +kernel
theorem dX11_lays_115 : decode cX11_lays 115 = .ok (.aload_n 0, 1) := by decide +kernel
theorem dX11_lays_116 : decode cX11_lays 116 = .ok (.aload_n 0, 1) := by decide +kernel
theorem dX11_lays_117 : decode cX11_lays 117 = .ok (.getfield 13, 3) := by decide +kernel
theorem dX11_lays_120 : decode cX11_lays 120 = .ok (.bipush 8, 2) := by decide +kernel
theorem dX11_lays_122 : decode cX11_lays 122 = .ok (.iload_n 1, 1) := by decide +kernel
theorem dX11_lays_123 : decode cX11_lays 123 = .ok (.imul, 1) := by decide +kernel
theorem dX11_lays_124 : decode cX11_lays 124 = .ok (.iaload, 1) := by decide +kernel
theorem dX11_lays_125 : decode cX11_lays 125 = .ok (.invokevirtual 109, 3) := by decide +kernel
theorem dX11_lays_128 : decode cX11_lays 128 = .ok (.istore_n 3, 1) := by decide +kernel
theorem dX11_lays_129 : decode cX11_lays 129 = .ok (.iload_n 3, 1) := by decide +kernel
theorem dX11_lays_130 : decode cX11_lays 130 = .ok (.ifCond .lt 7, 3) := by decide +kernel
theorem dX11_lays_133 : decode cX11_lays 133 = .ok (.iconst 1, 1) := by decide +kernel
theorem dX11_lays_134 : decode cX11_lays 134 = .ok (.goto 4, 3) := by decide +kernel
theorem dX11_lays_137 : decode cX11_lays 137 = .ok (.iconst 0, 1) := by decide +kernel
theorem dX11_lays_138 : decode cX11_lays 138 = .ok (.istore_n 2, 1) := by decide +kernel
theorem dX11_lays_139 : decode cX11_lays 139 = .ok (.iload_n 2, 1) := by decide +kernel
theorem dX11_lays_140 : decode cX11_lays 140 = .ok (.ifCond .eq 40, 3) := by decide +kernel
theorem dX11_lays_143 : decode cX11_lays 143 = .ok (.aload_n 0, 1) := by decide +kernel
theorem dX11_lays_144 : decode cX11_lays 144 = .ok (.getfield 24, 3) := by decide +kernel
theorem dX11_lays_147 : decode cX11_lays 147 = .ok (.aload_n 0, 1) := by decide +kernel
theorem dX11_lays_148 : decode cX11_lays 148 = .ok (.getfield 101, 3) := by decide +kernel
theorem dX11_lays_151 : decode cX11_lays 151 = .ok (.iload_n 3, 1) := by decide +kernel
theorem dX11_lays_152 : decode cX11_lays 152 = .ok (.iastore, 1) := by decide +kernel
theorem dX11_lays_153 : decode cX11_lays 153 = .ok (.aload_n 0, 1) := by decide +kernel
theorem dX11_lays_154 : decode cX11_lays 154 = .ok (.aload_n 0, 1) := by decide +kernel
theorem dX11_lays_155 : decode cX11_lays 155 = .ok (.getfield 13, 3) := by decide +kernel
theorem dX11_lays_158 : decode cX11_lays 158 = .ok (.bipush 8, 2) := by decide +kernel
theorem dX11_lays_160 : decode cX11_lays 160 = .ok (.iload_n 1, 1) := by decide +kernel
theorem dX11_lays_161 : decode cX11_lays 161 = .ok (.imul, 1) := by decide +kernel
theorem dX11_lays_162 : decode cX11_lays 162 = .ok (.iaload, 1) := by decide +kernel
theorem dX11_lays_163 : decode cX11_lays 163 = .ok (.aload_n 0, 1) := by decide +kernel
theorem dX11_lays_164 : decode cX11_lays 164 = .ok (.getfield 101, 3) := by decide +kernel
theorem dX11_lays_167 : decode cX11_lays 167 = .ok (.invokevirtual 105, 3) := by decide +kernel
theorem dX11_lays_170 : decode cX11_lays 170 = .ok (.aload_n 0, 1) := by decide +kernel
theorem dX11_lays_171 : decode cX11_lays 171 = .ok (.dup, 1) := by decide +kernel
theorem dX11_lays_172 : decode cX11_lays 172 = .ok (.getfield 101, 3) := by decide +kernel
theorem dX11_lays_175 : decode cX11_lays 175 = .ok (.iconst 1, 1) := by decide +kernel
theorem dX11_lays_176 : decode cX11_lays 176 = .ok (.iadd, 1) := by decide +kernel
theorem dX11_lays_177 : decode cX11_lays 177 = .ok (.putfield 101, 3) := by decide +kernel
theorem dX11_lays_180 : decode cX11_lays 180 = .ok (.goto (-79), 3) := by decide +kernel
theorem dX11_lays_183 : decode cX11_lays 183 = .ok (.return_, 1) := by decide +kernel
theorem dX11_comes_0 : decode cX11_comes 0 = .ok (.iload_n 1, 1) := by decide +kernel
theorem dX11_comes_1 : decode cX11_comes 1 = .ok (.iconst 2, 1) := by decide +kernel
theorem dX11_comes_2 : decode cX11_comes 2 = .ok (.if_icmp .ne 24, 3) := by decide +kernel
theorem dX11_comes_5 : decode cX11_comes 5 = .ok (.iload_n 2, 1) := by decide +kernel
theorem dX11_comes_6 : decode cX11_comes 6 = .ok (.ifCond .le 20, 3) := by decide +kernel
theorem dX11_comes_9 : decode cX11_comes 9 = .ok (.aload_n 0, 1) := by decide +kernel
theorem dX11_comes_10 : decode cX11_comes 10 = .ok (.getfield 28, 3) := by decide +kernel
theorem dX11_comes_13 : decode cX11_comes 13 = .ok (.aload_n 0, 1) := by decide +kernel
theorem dX11_comes_14 : decode cX11_comes 14 = .ok (.getfield 24, 3) := by decide +kernel
theorem dX11_comes_17 : decode cX11_comes 17 = .ok (.iload_n 2, 1) := by decide +kernel
theorem dX11_comes_18 : decode cX11_comes 18 = .ok (.iconst 1, 1) := by decide +kernel
theorem dX11_comes_19 : decode cX11_comes 19 = .ok (.isub, 1) := by decide +kernel
theorem dX11_comes_20 : decode cX11_comes 20 = .ok (.iaload, 1) := by decide +kernel
theorem dX11_comes_21 : decode cX11_comes 21 = .ok (.iload_n 2, 1) := by decide +kernel
theorem dX11_comes_22 : decode cX11_comes 22 = .ok (.iastore, 1) := by decide +kernel
theorem dX11_comes_23 : decode cX11_comes 23 = .ok (.goto 77, 3) := by decide +kernel
theorem dX11_comes_26 : decode cX11_comes 26 = .ok (.iload_n 1, 1) := by decide +kernel
theorem dX11_comes_27 : decode cX11_comes 27 = .ok (.iconst 5, 1) := by decide +kernel
theorem dX11_comes_28 : decode cX11_comes 28 = .ok (.if_icmp .ne 21, 3) := by decide +kernel
theorem dX11_comes_31 : decode cX11_comes 31 = .ok (.aload_n 0, 1) := by decide +kernel
theorem dX11_comes_32 : decode cX11_comes 32 = .ok (.getfield 28, 3) := by decide +kernel
theorem dX11_comes_35 : decode cX11_comes 35 = .ok (.aload_n 0, 1) := by decide +kernel
theorem dX11_comes_36 : decode cX11_comes 36 = .ok (.getfield 24, 3) := by decide +kernel
theorem dX11_comes_39 : decode cX11_comes 39 = .ok (.iload_n 2, 1) := by decide +kernel
theorem dX11_comes_40 : decode cX11_comes 40 = .ok (.iaload, 1) := by decide +kernel
theorem dX11_comes_41 : decode cX11_comes 41 = .ok (.dup2, 1) := by decide +kernel
theorem dX11_comes_42 : decode cX11_comes 42 = .ok (.iaload, 1) := by decide +kernel
theorem dX11_comes_43 : decode cX11_comes 43 = .ok (.iconst 1, 1) := by decide +kernel
theorem dX11_comes_44 : decode cX11_comes 44 = .ok (.iadd, 1) := by decide +kernel
theorem dX11_comes_45 : decode cX11_comes 45 = .ok (.iastore, 1) := by decide +kernel
theorem dX11_comes_46 : decode cX11_comes 46 = .ok (.goto 54, 3) := by decide +kernel
theorem dX11_comes_49 : decode cX11_comes 49 = .ok (.iload_n 1, 1) := by decide +kernel
theorem dX11_comes_50 : decode cX11_comes 50 = .ok (.iconst 4, 1) := by decide +kernel
theorem dX11_comes_51 : decode cX11_comes 51 = .ok (.if_icmp .ne 49, 3) := by decide +kernel
theorem dX11_comes_54 : decode cX11_comes 54 = .ok (.iconst 0, 1) := by decide +kernel
theorem dX11_comes_55 : decode cX11_comes 55 = .ok (.istore_n 3, 1) := by decide +kernel
theorem dX11_comes_56 : decode cX11_comes 56 = .ok (.iload_n 3, 1) := by decide +kernel
theorem dX11_comes_57 : decode cX11_comes 57 = .ok (.iload_n 2, 1) := by decide +kernel
theorem dX11_comes_58 : decode cX11_comes 58 = .ok (.if_icmp .ge 42, 3) := by decide +kernel
theorem dX11_comes_61 : decode cX11_comes 61 = .ok (.aload_n 0, 1) := by decide +kernel
theorem dX11_comes_62 : decode cX11_comes 62 = .ok (.getfield 24, 3) := by decide +kernel
theorem dX11_comes_65 : decode cX11_comes 65 = .ok (.iload_n 3, 1) := by decide +kernel
theorem dX11_comes_66 : decode cX11_comes 66 = .ok (.iaload, 1) := by decide +kernel
theorem dX11_comes_67 : decode cX11_comes 67 = .ok (.aload_n 0, 1) := by decide +kernel
theorem dX11_comes_68 : decode cX11_comes 68 = .ok (.getfield 24, 3) := by decide +kernel
theorem dX11_comes_71 : decode cX11_comes 71 = .ok (.iload_n 2, 1) := by decide +kernel
theorem dX11_comes_72 : decode cX11_comes 72 = .ok (.iaload, 1) := by decide +kernel
theorem dX11_comes_73 : decode cX11_comes 73 = .ok (.iadd, 1) := by decide +kernel
theorem dX11_comes_74 : decode cX11_comes 74 = .ok (.istore 4, 2) := by decide +kernel
theorem dX11_comes_76 : decode cX11_comes 76 = .ok (.iload 4, 2) := by decide +kernel
theorem dX11_comes_78 : decode cX11_comes 78 = .ok (.ldc 104, 2) := by decide +kernel
theorem dX11_comes_80 : decode cX11_comes 80 = .ok (.if_icmp .gt 14, 3) := by decide +kernel
theorem dX11_comes_83 : decode cX11_comes 83 = .ok (.aload_n 0, 1) := by decide +kernel
theorem dX11_comes_84 : decode cX11_comes 84 = .ok (.getfield 28, 3) := by decide +kernel
theorem dX11_comes_87 : decode cX11_comes 87 = .ok (.iload 4, 2) := by decide +kernel
theorem dX11_comes_89 : decode cX11_comes 89 = .ok (.dup2, 1) := by decide +kernel
theorem dX11_comes_90 : decode cX11_comes 90 = .ok (.iaload, 1) := by decide +kernel
theorem dX11_comes_91 : decode cX11_comes 91 = .ok (.iconst 1, 1) := by decide +kernel
theorem dX11_comes_92 : decode cX11_comes 92 = .ok (.iadd, 1) := by decide +kernel
theorem dX11_comes_93 : decode cX11_comes 93 = .ok (.iastore, 1) := by decide +kernel
theorem dX11_comes_94 : decode cX11_comes 94 = .ok (.iinc 3 1, 3) := by decide +kernel
theorem dX11_comes_97 : decode cX11_comes 97 = .ok (.goto (-41), 3) := by decide +kernel
theorem dX11_comes_100 : decode cX11_comes 100 = .ok (.return_, 1) := by decide +kernel
set_option maxRecDepth 20000 in
theorem ggX11_next_X11_sum : GoodIn wsX11_next wsX11_sum := goodIn_r _ [9, 1, 2, 4, 10, 11, 8, 12, 22, 23, 24, 25, 26, 27, 28, 29, 30, 31, 32, 33, 34, 35, 36, 37, 38, 39, 40, 41, 42] (by decide +kernel) (by decide +kernel)
set_option maxRecDepth 20000 in
theorem gX11_next_X11_sum : GoodIn wsX11_next (wsV RX11 113 RX11 yX11_sum wsX11_sum) := goodIn_app (goodIn_of _ (by decide +kernel)) ggX11_next_X11_sum
set_option maxRecDepth 20000 in
theorem ggX11_next_X11_again : GoodIn wsX11_next wsX11_again := goodIn_r _ [16, 2, 22, 23, 24, 25, 26, 27, 28, 29, 30, 31, 32, 33, 34, 35, 36, 37, 38, 39, 40, 41, 42] (by decide +kernel) (by decide +kernel)
set_option maxRecDepth 20000 in
theorem gX11_next_X11_again : GoodIn wsX11_next (wsV RX11 117 RX11 yX11_again wsX11_again) := goodIn_app (goodIn_of _ (by decide +kernel)) ggX11_next_X11_again
set_option maxRecDepth 20000 in
theorem ggX11_next_X11_free : GoodIn wsX11_next wsX11_free := goodIn_r _ [20, 21, 2, 10, 11, 8, 12, 22, 23, 24, 25, 26, 27, 28, 29, 30, 31, 32, 33, 34, 35, 36, 37, 38, 39, 40, 41, 42] (by decide +kernel) (by decide +kernel)
set_option maxRecDepth 20000 in
theorem gX11_next_X11_free : GoodIn wsX11_next (wsV RX11 120 RX11 yX11_free wsX11_free) := goodIn_app (goodIn_of _ (by decide +kernel)) ggX11_next_X11_free
theorem dX11_next_0 : decode cX11_next 0 = .ok (.aload_n 0, 1) := by decide +kernel
theorem dX11_next_1 : decode cX11_next 1 = .ok (.getfield 101, 3) := by decide +kernel
theorem dX11_next_4 : decode cX11_next 4 = .ok (.istore_n 2, 1) := by decide +kernel
theorem dX11_next_5 : decode cX11_next 5 = .ok (.iload_n 2, 1) := by decide +kernel
theorem dX11_next_6 : decode cX11_next 6 = .ok (.ifCond .le 14, 3) := by decide +kernel
theorem dX11_next_9 : decode cX11_next 9 = .ok (.aload_n 0, 1) := by decide +kernel
theorem dX11_next_10 : decode cX11_next 10 = .ok (.getfield 24, 3) := by decide +kernel
theorem dX11_next_13 : decode cX11_next 13 = .ok (.iload_n 2, 1) := by decide +kernel
theorem dX11_next_14 : decode cX11_next 14 = .ok (.iconst 1, 1) := by decide +kernel
theorem dX11_next_15 : decode cX11_next 15 = .ok (.isub, 1) := by decide +kernel
theorem dX11_next_16 : decode cX11_next 16 = .ok (.iaload, 1) := by decide +kernel
theorem dX11_next_17 : decode cX11_next 17 = .ok (.goto 4, 3) := by decide +kernel
theorem dX11_next_20 : decode cX11_next 20 = .ok (.iconst 0, 1) := by decide +kernel
theorem dX11_next_21 : decode cX11_next 21 = .ok (.istore_n 3, 1) := by decide +kernel
theorem dX11_next_22 : decode cX11_next 22 = .ok (.iload_n 1, 1) := by decide +kernel
theorem dX11_next_23 : decode cX11_next 23 = .ok (.tableswitch 135 0 5 #[37, 55, 66, 88, 94, 128], 37) := by decide +kernel
theorem dX11_next_60 : decode cX11_next 60 = .ok (.aload_n 0, 1) := by decide +kernel
theorem dX11_next_61 : decode cX11_next 61 = .ok (.iload_n 2, 1) := by decide +kernel
theorem dX11_next_62 : decode cX11_next 62 = .ok (.iload_n 3, 1) := by decide +kernel
theorem dX11_next_63 : decode cX11_next 63 = .ok (.isub, 1) := by decide +kernel
theorem dX11_next_64 : decode cX11_next 64 = .ok (.iload_n 2, 1) := by decide +kernel
theorem dX11_next_65 : decode cX11_next 65 = .ok (.aload_n 0, 1) := by decide +kernel
theorem dX11_next_66 : decode cX11_next 66 = .ok (.getfield 24, 3) := by decide +kernel
theorem dX11_next_69 : decode cX11_next 69 = .ok (.iload_n 2, 1) := by decide +kernel
theorem dX11_next_70 : decode cX11_next 70 = .ok (.iconst 2, 1) := by decide +kernel
theorem dX11_next_71 : decode cX11_next 71 = .ok (.isub, 1) := by decide +kernel
theorem dX11_next_72 : decode cX11_next 72 = .ok (.iaload, 1) := by decide +kernel
theorem dX11_next_73 : decode cX11_next 73 = .ok (.isub, 1) := by decide +kernel
theorem dX11_next_74 : decode cX11_next 74 = .ok (.invokevirtual 113, 3) := by decide +kernel
theorem dX11_next_77 : decode cX11_next 77 = .ok (.ireturn, 1) := by decide +kernel
theorem dX11_next_78 : decode cX11_next 78 = .ok (.aload_n 0, 1) := by decide +kernel
theorem dX11_next_79 : decode cX11_next 79 = .ok (.iload_n 3, 1) := by decide +kernel
theorem dX11_next_80 : decode cX11_next 80 = .ok (.iconst 1, 1) := by decide +kernel
theorem dX11_next_81 : decode cX11_next 81 = .ok (.isub, 1) := by decide +kernel
theorem dX11_next_82 : decode cX11_next 82 = .ok (.iload_n 2, 1) := by decide +kernel
theorem dX11_next_83 : decode cX11_next 83 = .ok (.iload_n 3, 1) := by decide +kernel
theorem dX11_next_84 : decode cX11_next 84 = .ok (.isub, 1) := by decide +kernel
theorem dX11_next_85 : decode cX11_next 85 = .ok (.invokevirtual 113, 3) := by decide +kernel
theorem dX11_next_88 : decode cX11_next 88 = .ok (.ireturn, 1) := by decide +kernel
theorem dX11_next_89 : decode cX11_next 89 = .ok (.aload_n 0, 1) := by decide +kernel
theorem dX11_next_90 : decode cX11_next 90 = .ok (.getfield 28, 3) := by decide +kernel
theorem dX11_next_93 : decode cX11_next 93 = .ok (.iload_n 3, 1) := by decide +kernel
theorem dX11_next_94 : decode cX11_next 94 = .ok (.iaload, 1) := by decide +kernel
theorem dX11_next_95 : decode cX11_next 95 = .ok (.ifCond .ne 7, 3) := by decide +kernel
theorem dX11_next_98 : decode cX11_next 98 = .ok (.iconst 0, 1) := by decide +kernel
theorem dX11_next_99 : decode cX11_next 99 = .ok (.goto 11, 3) := by decide +kernel
theorem dX11_next_102 : decode cX11_next 102 = .ok (.iload_n 2, 1) := by decide +kernel
theorem dX11_next_103 : decode cX11_next 103 = .ok (.aload_n 0, 1) := by decide +kernel
theorem dX11_next_104 : decode cX11_next 104 = .ok (.getfield 28, 3) := by decide +kernel
theorem dX11_next_107 : decode cX11_next 107 = .ok (.iload_n 3, 1) := by decide +kernel
theorem dX11_next_108 : decode cX11_next 108 = .ok (.iaload, 1) := by decide +kernel
theorem dX11_next_109 : decode cX11_next 109 = .ok (.isub, 1) := by decide +kernel
theorem dX11_next_110 : decode cX11_next 110 = .ok (.ireturn, 1) := by decide +kernel
theorem dX11_next_111 : decode cX11_next 111 = .ok (.aload_n 0, 1) := by decide +kernel
theorem dX11_next_112 : decode cX11_next 112 = .ok (.iload_n 2, 1) := by decide +kernel
theorem dX11_next_113 : decode cX11_next 113 = .ok (.invokevirtual 117, 3) := by decide +kernel
theorem dX11_next_116 : decode cX11_next 116 = .ok (.ireturn, 1) := by decide +kernel
theorem dX11_next_117 : decode cX11_next 117 = .ok (.iload_n 3, 1) := by decide +kernel
theorem dX11_next_118 : decode cX11_next 118 = .ok (.iconst 1, 1) := by decide +kernel
theorem dX11_next_119 : decode cX11_next 119 = .ok (.iadd, 1) := by decide +kernel
theorem dX11_next_120 : decode cX11_next 120 = .ok (.istore 4, 2) := by decide +kernel
theorem dX11_next_122 : decode cX11_next 122 = .ok (.iload 4, 2) := by decide +kernel
theorem dX11_next_124 : decode cX11_next 124 = .ok (.ldc 104, 2) := by decide +kernel
theorem dX11_next_126 : decode cX11_next 126 = .ok (.if_icmp .gt 23, 3) := by decide +kernel
theorem dX11_next_129 : decode cX11_next 129 = .ok (.aload_n 0, 1) := by decide +kernel
theorem dX11_next_130 : decode cX11_next 130 = .ok (.getfield 28, 3) := by decide +kernel
theorem dX11_next_133 : decode cX11_next 133 = .ok (.iload 4, 2) := by decide +kernel
theorem dX11_next_135 : decode cX11_next 135 = .ok (.iaload, 1) := by decide +kernel
theorem dX11_next_136 : decode cX11_next 136 = .ok (.iconst 1, 1) := by decide +kernel
theorem dX11_next_137 : decode cX11_next 137 = .ok (.if_icmp .ne 6, 3) := by decide +kernel
theorem dX11_next_140 : decode cX11_next 140 = .ok (.iload 4, 2) := by decide +kernel
theorem dX11_next_142 : decode cX11_next 142 = .ok (.ireturn, 1) := by decide +kernel
theorem dX11_next_143 : decode cX11_next 143 = .ok (.iinc 4 1, 3) := by decide +kernel
theorem dX11_next_146 : decode cX11_next 146 = .ok (.goto (-24), 3) := by decide +kernel
theorem dX11_next_149 : decode cX11_next 149 = .ok (.iconst (-1), 1) := by decide +kernel
theorem dX11_next_150 : decode cX11_next 150 = .ok (.ireturn, 1) := by decide +kernel
theorem dX11_next_151 : decode cX11_next 151 = .ok (.aload_n 0, 1) := by decide +kernel
theorem dX11_next_152 : decode cX11_next 152 = .ok (.getfield 28, 3) := by decide +kernel
theorem dX11_next_155 : decode cX11_next 155 = .ok (.iload_n 3, 1) := by decide +kernel
theorem dX11_next_156 : decode cX11_next 156 = .ok (.iaload, 1) := by decide +kernel
theorem dX11_next_157 : decode cX11_next 157 = .ok (.ireturn, 1) := by decide +kernel
theorem dX11_next_158 : decode cX11_next 158 = .ok (.aload_n 0, 1) := by decide +kernel
theorem dX11_next_159 : decode cX11_next 159 = .ok (.iload_n 2, 1) := by decide +kernel
theorem dX11_next_160 : decode cX11_next 160 = .ok (.invokevirtual 120, 3) := by decide +kernel
theorem dX11_next_163 : decode cX11_next 163 = .ok (.ireturn, 1) := by decide +kernel
set_option maxRecDepth 20000 in
theorem ggX11_sum_X11_in : GoodIn wsX11_sum wsX11_in := goodIn_r _ [7] (by decide +kernel) (by decide +kernel)
set_option maxRecDepth 20000 in
theorem gX11_sum_X11_in : GoodIn wsX11_sum (va_wsS RX11 58 yX11_in wsX11_in) := goodIn_app (goodIn_of _ (by decide +kernel)) ggX11_sum_X11_in
theorem dX11_sum_0 : decode cX11_sum 0 = .ok (.iload_n 1, 1) := by decide +kernel
theorem dX11_sum_1 : decode cX11_sum 1 = .ok (.i2l, 1) := by decide +kernel
theorem dX11_sum_2 : decode cX11_sum 2 = .ok (.lconst 0, 1) := by decide +kernel
theorem dX11_sum_3 : decode cX11_sum 3 = .ok (.aload_n 0, 1) := by decide +kernel
theorem dX11_sum_4 : decode cX11_sum 4 = .ok (.getfield 101, 3) := by decide +kernel
theorem dX11_sum_7 : decode cX11_sum 7 = .ok (.iconst 1, 1) := by decide +kernel
theorem dX11_sum_8 : decode cX11_sum 8 = .ok (.isub, 1) := by decide +kernel
theorem dX11_sum_9 : decode cX11_sum 9 = .ok (.i2l, 1) := by decide +kernel
theorem dX11_sum_10 : decode cX11_sum 10 = .ok (.invokestatic 58, 3) := by decide +kernel
theorem dX11_sum_13 : decode cX11_sum 13 = .ok (.ifCond .eq 37, 3) := by decide +kernel
theorem dX11_sum_16 : decode cX11_sum 16 = .ok (.iload_n 2, 1) := by decide +kernel
theorem dX11_sum_17 : decode cX11_sum 17 = .ok (.i2l, 1) := by decide +kernel
theorem dX11_sum_18 : decode cX11_sum 18 = .ok (.lconst 0, 1) := by decide +kernel
theorem dX11_sum_19 : decode cX11_sum 19 = .ok (.aload_n 0, 1) := by decide +kernel
theorem dX11_sum_20 : decode cX11_sum 20 = .ok (.getfield 101, 3) := by decide +kernel
theorem dX11_sum_23 : decode cX11_sum 23 = .ok (.iconst 1, 1) := by decide +kernel
theorem dX11_sum_24 : decode cX11_sum 24 = .ok (.isub, 1) := by decide +kernel
theorem dX11_sum_25 : decode cX11_sum 25 = .ok (.i2l, 1) := by decide +kernel
theorem dX11_sum_26 : decode cX11_sum 26 = .ok (.invokestatic 58, 3) := by decide +kernel
theorem dX11_sum_29 : decode cX11_sum 29 = .ok (.ifCond .eq 21, 3) := by decide +kernel
theorem dX11_sum_32 : decode cX11_sum 32 = .ok (.aload_n 0, 1) := by decide +kernel
theorem dX11_sum_33 : decode cX11_sum 33 = .ok (.getfield 24, 3) := by decide +kernel
theorem dX11_sum_36 : decode cX11_sum 36 = .ok (.iload_n 1, 1) := by decide +kernel
theorem dX11_sum_37 : decode cX11_sum 37 = .ok (.iaload, 1) := by decide +kernel
theorem dX11_sum_38 : decode cX11_sum 38 = .ok (.aload_n 0, 1) := by decide +kernel
theorem dX11_sum_39 : decode cX11_sum 39 = .ok (.getfield 24, 3) := by decide +kernel
theorem dX11_sum_42 : decode cX11_sum 42 = .ok (.iload_n 2, 1) := by decide +kernel
theorem dX11_sum_43 : decode cX11_sum 43 = .ok (.iaload, 1) := by decide +kernel
theorem dX11_sum_44 : decode cX11_sum 44 = .ok (.iadd, 1) := by decide +kernel
theorem dX11_sum_45 : decode cX11_sum 45 = .ok (.ldc 104, 2) := by decide +kernel
theorem dX11_sum_47 : decode cX11_sum 47 = .ok (.if_icmp .le 5, 3) := by decide +kernel
theorem dX11_sum_50 : decode cX11_sum 50 = .ok (.iconst (-1), 1) := by decide +kernel
theorem dX11_sum_51 : decode cX11_sum 51 = .ok (.ireturn, 1) := by decide +kernel
theorem dX11_sum_52 : decode cX11_sum 52 = .ok (.aload_n 0, 1) := by decide +kernel
theorem dX11_sum_53 : decode cX11_sum 53 = .ok (.getfield 24, 3) := by decide +kernel
theorem dX11_sum_56 : decode cX11_sum 56 = .ok (.iload_n 1, 1) := by decide +kernel
theorem dX11_sum_57 : decode cX11_sum 57 = .ok (.iaload, 1) := by decide +kernel
theorem dX11_sum_58 : decode cX11_sum 58 = .ok (.aload_n 0, 1) := by decide +kernel
theorem dX11_sum_59 : decode cX11_sum 59 = .ok (.getfield 24, 3) := by decide +kernel
theorem dX11_sum_62 : decode cX11_sum 62 = .ok (.iload_n 2, 1) := by decide +kernel
theorem dX11_sum_63 : decode cX11_sum 63 = .ok (.iaload, 1) := by decide +kernel
theorem dX11_sum_64 : decode cX11_sum 64 = .ok (.iadd, 1) := by decide +kernel
theorem dX11_sum_65 : decode cX11_sum 65 = .ok (.ireturn, 1) := by decide +kernel
theorem dX11_again_0 : decode cX11_again 0 = .ok (.iconst 1, 1) := by decide +kernel
theorem dX11_again_1 : decode cX11_again 1 = .ok (.istore_n 2, 1) := by decide +kernel
theorem dX11_again_2 : decode cX11_again 2 = .ok (.iconst 1, 1) := by decide +kernel
theorem dX11_again_3 : decode cX11_again 3 = .ok (.istore_n 3, 1) := by decide +kernel
theorem dX11_again_4 : decode cX11_again 4 = .ok (.iload_n 2, 1) := by decide +kernel
theorem dX11_again_5 : decode cX11_again 5 = .ok (.iconst 1, 1) := by decide +kernel
theorem dX11_again_6 : decode cX11_again 6 = .ok (.iadd, 1) := by decide +kernel
theorem dX11_again_7 : decode cX11_again 7 = .ok (.iload_n 3, 1) := by decide +kernel
theorem dX11_again_8 : decode cX11_again 8 = .ok (.imul, 1) := by decide +kernel
theorem dX11_again_9 : decode cX11_again 9 = .ok (.iload_n 1, 1) := by decide +kernel
theorem dX11_again_10 : decode cX11_again 10 = .ok (.if_icmp .gt 77, 3) := by decide +kernel
theorem dX11_again_13 : decode cX11_again 13 = .ok (.iconst 0, 1) := by decide +kernel
theorem dX11_again_14 : decode cX11_again 14 = .ok (.istore 4, 2) := by decide +kernel
theorem dX11_again_16 : decode cX11_again 16 = .ok (.iload_n 1, 1) := by decide +kernel
theorem dX11_again_17 : decode cX11_again 17 = .ok (.iconst 1, 1) := by decide +kernel
theorem dX11_again_18 : decode cX11_again 18 = .ok (.isub, 1) := by decide +kernel
theorem dX11_again_19 : decode cX11_again 19 = .ok (.iload 4, 2) := by decide +kernel
theorem dX11_again_21 : decode cX11_again 21 = .ok (.isub, 1) := by decide +kernel
theorem dX11_again_22 : decode cX11_again 22 = .ok (.iload_n 3, 1) := by decide +kernel
theorem dX11_again_23 : decode cX11_again 23 = .ok (.isub, 1) := by decide +kernel
theorem dX11_again_24 : decode cX11_again 24 = .ok (.ifCond .lt 36, 3) := by decide +kernel
theorem dX11_again_27 : decode cX11_again 27 = .ok (.aload_n 0, 1) := by decide +kernel
theorem dX11_again_28 : decode cX11_again 28 = .ok (.getfield 24, 3) := by decide +kernel
theorem dX11_again_31 : decode cX11_again 31 = .ok (.iload_n 1, 1) := by decide +kernel
theorem dX11_again_32 : decode cX11_again 32 = .ok (.iconst 1, 1) := by decide +kernel
theorem dX11_again_33 : decode cX11_again 33 = .ok (.isub, 1) := by decide +kernel
theorem dX11_again_34 : decode cX11_again 34 = .ok (.iload 4, 2) := by decide +kernel
theorem dX11_again_36 : decode cX11_again 36 = .ok (.isub, 1) := by decide +kernel
theorem dX11_again_37 : decode cX11_again 37 = .ok (.iaload, 1) := by decide +kernel
theorem dX11_again_38 : decode cX11_again 38 = .ok (.aload_n 0, 1) := by decide +kernel
theorem dX11_again_39 : decode cX11_again 39 = .ok (.getfield 24, 3) := by decide +kernel
theorem dX11_again_42 : decode cX11_again 42 = .ok (.iload_n 1, 1) := by decide +kernel
theorem dX11_again_43 : decode cX11_again 43 = .ok (.iconst 1, 1) := by decide +kernel
theorem dX11_again_44 : decode cX11_again 44 = .ok (.isub, 1) := by decide +kernel
theorem dX11_again_45 : decode cX11_again 45 = .ok (.iload 4, 2) := by decide +kernel
theorem dX11_again_47 : decode cX11_again 47 = .ok (.isub, 1) := by decide +kernel
theorem dX11_again_48 : decode cX11_again 48 = .ok (.iload_n 3, 1) := by decide +kernel
theorem dX11_again_49 : decode cX11_again 49 = .ok (.isub, 1) := by decide +kernel
theorem dX11_again_50 : decode cX11_again 50 = .ok (.iaload, 1) := by decide +kernel
theorem dX11_again_51 : decode cX11_again 51 = .ok (.if_icmp .ne 9, 3) := by decide +kernel
theorem dX11_again_54 : decode cX11_again 54 = .ok (.iinc 4 1, 3) := by decide +kernel
theorem dX11_again_57 : decode cX11_again 57 = .ok (.goto (-41), 3) := by decide +kernel
theorem dX11_again_60 : decode cX11_again 60 = .ok (.iload 4, 2) := by decide +kernel
theorem dX11_again_62 : decode cX11_again 62 = .ok (.iload_n 3, 1) := by decide +kernel
theorem dX11_again_63 : decode cX11_again 63 = .ok (.idiv, 1) := by decide +kernel
theorem dX11_again_64 : decode cX11_again 64 = .ok (.iconst 1, 1) := by decide +kernel
theorem dX11_again_65 : decode cX11_again 65 = .ok (.iadd, 1) := by decide +kernel
theorem dX11_again_66 : decode cX11_again 66 = .ok (.iload_n 2, 1) := by decide +kernel
theorem dX11_again_67 : decode cX11_again 67 = .ok (.if_icmp .le 12, 3) := by decide +kernel
theorem dX11_again_70 : decode cX11_again 70 = .ok (.iload 4, 2) := by decide +kernel
theorem dX11_again_72 : decode cX11_again 72 = .ok (.iload_n 3, 1) := by decide +kernel
theorem dX11_again_73 : decode cX11_again 73 = .ok (.idiv, 1) := by decide +kernel
theorem dX11_again_74 : decode cX11_again 74 = .ok (.iconst 1, 1) := by decide +kernel
theorem dX11_again_75 : decode cX11_again 75 = .ok (.iadd, 1) := by decide +kernel
theorem dX11_again_76 : decode cX11_again 76 = .ok (.goto 4, 3) := by decide +kernel
theorem dX11_again_79 : decode cX11_again 79 = .ok (.iload_n 2, 1) := by decide +kernel
theorem dX11_again_80 : decode cX11_again 80 = .ok (.istore_n 2, 1) := by decide +kernel
theorem dX11_again_81 : decode cX11_again 81 = .ok (.iinc 3 1, 3) := by decide +kernel
theorem dX11_again_84 : decode cX11_again 84 = .ok (.goto (-80), 3) := by decide +kernel
theorem dX11_again_87 : decode cX11_again 87 = .ok (.iload_n 2, 1) := by decide +kernel
theorem dX11_again_88 : decode cX11_again 88 = .ok (.ireturn, 1) := by decide +kernel
set_option maxRecDepth 20000 in
theorem ggX11_free_X11_in : GoodIn wsX11_free wsX11_in := goodIn_r _ [6] (by decide +kernel) (by decide +kernel)
set_option maxRecDepth 20000 in
theorem gX11_free_X11_in : GoodIn wsX11_free (va_wsS RX11 58 yX11_in wsX11_in) := goodIn_app (goodIn_of _ (by decide +kernel)) ggX11_free_X11_in
theorem dX11_free_0 : decode cX11_free 0 = .ok (.iconst 0, 1) := by decide +kernel
theorem dX11_free_1 : decode cX11_free 1 = .ok (.istore_n 2, 1) := by decide +kernel
theorem dX11_free_2 : decode cX11_free 2 = .ok (.iload_n 2, 1) := by decide +kernel
theorem dX11_free_3 : decode cX11_free 3 = .ok (.iload_n 1, 1) := by decide +kernel
theorem dX11_free_4 : decode cX11_free 4 = .ok (.if_icmp .gt 16, 3) := by decide +kernel
theorem dX11_free_7 : decode cX11_free 7 = .ok (.aload_n 0, 1) := by decide +kernel
theorem dX11_free_8 : decode cX11_free 8 = .ok (.getfield 40, 3) := by decide +kernel
theorem dX11_free_11 : decode cX11_free 11 = .ok (.iload_n 2, 1) := by decide +kernel
theorem dX11_free_12 : decode cX11_free 12 = .ok (.iconst 0, 1) := by decide +kernel
theorem dX11_free_13 : decode cX11_free 13 = .ok (.iastore, 1) := by decide +kernel
theorem dX11_free_14 : decode cX11_free 14 = .ok (.iinc 2 1, 3) := by decide +kernel
theorem dX11_free_17 : decode cX11_free 17 = .ok (.goto (-15), 3) := by decide +kernel
theorem dX11_free_20 : decode cX11_free 20 = .ok (.iconst 1, 1) := by decide +kernel
theorem dX11_free_21 : decode cX11_free 21 = .ok (.istore_n 2, 1) := by decide +kernel
theorem dX11_free_22 : decode cX11_free 22 = .ok (.iconst 2, 1) := by decide +kernel
theorem dX11_free_23 : decode cX11_free 23 = .ok (.iload_n 2, 1) := by decide +kernel
theorem dX11_free_24 : decode cX11_free 24 = .ok (.imul, 1) := by decide +kernel
theorem dX11_free_25 : decode cX11_free 25 = .ok (.iload_n 1, 1) := by decide +kernel
theorem dX11_free_26 : decode cX11_free 26 = .ok (.if_icmp .gt 49, 3) := by decide +kernel
theorem dX11_free_29 : decode cX11_free 29 = .ok (.iconst 2, 1) := by decide +kernel
theorem dX11_free_30 : decode cX11_free 30 = .ok (.aload_n 0, 1) := by decide +kernel
theorem dX11_free_31 : decode cX11_free 31 = .ok (.getfield 24, 3) := by decide +kernel
theorem dX11_free_34 : decode cX11_free 34 = .ok (.iload_n 1, 1) := by decide +kernel
theorem dX11_free_35 : decode cX11_free 35 = .ok (.iload_n 2, 1) := by decide +kernel
theorem dX11_free_36 : decode cX11_free 36 = .ok (.isub, 1) := by decide +kernel
theorem dX11_free_37 : decode cX11_free 37 = .ok (.iaload, 1) := by decide +kernel
theorem dX11_free_38 : decode cX11_free 38 = .ok (.imul, 1) := by decide +kernel
theorem dX11_free_39 : decode cX11_free 39 = .ok (.aload_n 0, 1) := by decide +kernel
theorem dX11_free_40 : decode cX11_free 40 = .ok (.getfield 24, 3) := by decide +kernel
theorem dX11_free_43 : decode cX11_free 43 = .ok (.iload_n 1, 1) := by decide +kernel
theorem dX11_free_44 : decode cX11_free 44 = .ok (.iconst 2, 1) := by decide +kernel
theorem dX11_free_45 : decode cX11_free 45 = .ok (.iload_n 2, 1) := by decide +kernel
theorem dX11_free_46 : decode cX11_free 46 = .ok (.imul, 1) := by decide +kernel
theorem dX11_free_47 : decode cX11_free 47 = .ok (.isub, 1) := by decide +kernel
theorem dX11_free_48 : decode cX11_free 48 = .ok (.iaload, 1) := by decide +kernel
theorem dX11_free_49 : decode cX11_free 49 = .ok (.isub, 1) := by decide +kernel
theorem dX11_free_50 : decode cX11_free 50 = .ok (.istore_n 3, 1) := by decide +kernel
theorem dX11_free_51 : decode cX11_free 51 = .ok (.iload_n 3, 1) := by decide +kernel
theorem dX11_free_52 : decode cX11_free 52 = .ok (.i2l, 1) := by decide +kernel
theorem dX11_free_53 : decode cX11_free 53 = .ok (.lconst 0, 1) := by decide +kernel
theorem dX11_free_54 : decode cX11_free 54 = .ok (.iload_n 1, 1) := by decide +kernel
theorem dX11_free_55 : decode cX11_free 55 = .ok (.i2l, 1) := by decide +kernel
theorem dX11_free_56 : decode cX11_free 56 = .ok (.invokestatic 58, 3) := by decide +kernel
theorem dX11_free_59 : decode cX11_free 59 = .ok (.ifCond .eq 10, 3) := by decide +kernel
theorem dX11_free_62 : decode cX11_free 62 = .ok (.aload_n 0, 1) := by decide +kernel
theorem dX11_free_63 : decode cX11_free 63 = .ok (.getfield 40, 3) := by decide +kernel
theorem dX11_free_66 : decode cX11_free 66 = .ok (.iload_n 3, 1) := by decide +kernel
theorem dX11_free_67 : decode cX11_free 67 = .ok (.iconst 1, 1) := by decide +kernel
theorem dX11_free_68 : decode cX11_free 68 = .ok (.iastore, 1) := by decide +kernel
theorem dX11_free_69 : decode cX11_free 69 = .ok (.iinc 2 1, 3) := by decide +kernel
theorem dX11_free_72 : decode cX11_free 72 = .ok (.goto (-50), 3) := by decide +kernel
theorem dX11_free_75 : decode cX11_free 75 = .ok (.iconst 0, 1) := by decide +kernel
theorem dX11_free_76 : decode cX11_free 76 = .ok (.istore_n 2, 1) := by decide +kernel
theorem dX11_free_77 : decode cX11_free 77 = .ok (.aload_n 0, 1) := by decide +kernel
theorem dX11_free_78 : decode cX11_free 78 = .ok (.getfield 40, 3) := by decide +kernel
theorem dX11_free_81 : decode cX11_free 81 = .ok (.iload_n 2, 1) := by decide +kernel
theorem dX11_free_82 : decode cX11_free 82 = .ok (.iaload, 1) := by decide +kernel
theorem dX11_free_83 : decode cX11_free 83 = .ok (.iconst 1, 1) := by decide +kernel
theorem dX11_free_84 : decode cX11_free 84 = .ok (.if_icmp .ne 9, 3) := by decide +kernel
theorem dX11_free_87 : decode cX11_free 87 = .ok (.iinc 2 1, 3) := by decide +kernel
theorem dX11_free_90 : decode cX11_free 90 = .ok (.goto (-13), 3) := by decide +kernel
theorem dX11_free_93 : decode cX11_free 93 = .ok (.iload_n 2, 1) := by decide +kernel
theorem dX11_free_94 : decode cX11_free 94 = .ok (.ireturn, 1) := by decide +kernel
set_option maxRecDepth 20000 in
theorem ggX11_at_X11_isRegister : GoodIn wsX11_at wsX11_isRegister := goodIn_r _ [7, 8, 9, 10, 6, 11] (by decide +kernel) (by decide +kernel)
set_option maxRecDepth 20000 in
theorem gX11_at_X11_isRegister : GoodIn wsX11_at (va_wsS RX11 96 yX11_isRegister wsX11_isRegister) := goodIn_app (goodIn_of _ (by decide +kernel)) ggX11_at_X11_isRegister
set_option maxRecDepth 20000 in
theorem ggX11_at_X11_in : GoodIn wsX11_at wsX11_in := goodIn_r _ [11] (by decide +kernel) (by decide +kernel)
set_option maxRecDepth 20000 in
theorem gX11_at_X11_in : GoodIn wsX11_at (va_wsS RX11 58 yX11_in wsX11_in) := goodIn_app (goodIn_of _ (by decide +kernel)) ggX11_at_X11_in
set_option maxRecDepth 20000 in
theorem ggX11_at_X11_lays : GoodIn wsX11_at wsX11_lays := goodIn_r _ [15, 16, 17, 2, 18, 19, 3, 20, 21, 22, 6, 23, 24, 25, 26, 27, 28, 29, 30, 31, 9, 10, 11, 32, 33, 34, 35, 36, 37, 38, 39, 40, 41, 42, 43, 44, 45, 46, 47, 48, 49, 50, 51, 52, 53, 54, 55, 56, 57, 58, 59, 60, 61] (by decide +kernel) (by decide +kernel)
set_option maxRecDepth 20000 in
theorem gX11_at_X11_lays : GoodIn wsX11_at (wsV RX11 125 RX11 yX11_lays wsX11_lays) := goodIn_app (goodIn_of _ (by decide +kernel)) ggX11_at_X11_lays
theorem dX11_at_0 : decode cX11_at 0 = .ok (.iload_n 1, 1) := by decide +kernel
theorem dX11_at_1 : decode cX11_at 1 = .ok (.invokestatic 96, 3) := by decide +kernel
theorem dX11_at_4 : decode cX11_at 4 = .ok (.ifCond .eq 15, 3) := by decide +kernel
theorem dX11_at_7 : decode cX11_at 7 = .ok (.iload_n 2, 1) := by decide +kernel
theorem dX11_at_8 : decode cX11_at 8 = .ok (.i2l, 1) := by decide +kernel
theorem dX11_at_9 : decode cX11_at 9 = .ok (.lconst 0, 1) := by decide +kernel
theorem dX11_at_10 : decode cX11_at 10 = .ok (.ldc2_w 123, 3) := by decide +kernel
theorem dX11_at_13 : decode cX11_at 13 = .ok (.invokestatic 58, 3) := by decide +kernel
theorem dX11_at_16 : decode cX11_at 16 = .ok (.ifCond .ne 5, 3) := by decide +kernel
theorem dX11_at_19 : decode cX11_at 19 = .ok (.iconst (-1), 1) := by decide +kernel
theorem dX11_at_20 : decode cX11_at 20 = .ok (.ireturn, 1) := by decide +kernel
theorem dX11_at_21 : decode cX11_at 21 = .ok (.aload_n 0, 1) := by decide +kernel
theorem dX11_at_22 : decode cX11_at 22 = .ok (.iload_n 1, 1) := by decide +kernel
theorem dX11_at_23 : decode cX11_at 23 = .ok (.invokevirtual 125, 3) := by decide +kernel
theorem dX11_at_26 : decode cX11_at 26 = .ok (.iload_n 2, 1) := by decide +kernel
theorem dX11_at_27 : decode cX11_at 27 = .ok (.aload_n 0, 1) := by decide +kernel
theorem dX11_at_28 : decode cX11_at 28 = .ok (.getfield 101, 3) := by decide +kernel
theorem dX11_at_31 : decode cX11_at 31 = .ok (.if_icmp .ge 12, 3) := by decide +kernel
theorem dX11_at_34 : decode cX11_at 34 = .ok (.aload_n 0, 1) := by decide +kernel
theorem dX11_at_35 : decode cX11_at 35 = .ok (.getfield 24, 3) := by decide +kernel
theorem dX11_at_38 : decode cX11_at 38 = .ok (.iload_n 2, 1) := by decide +kernel
theorem dX11_at_39 : decode cX11_at 39 = .ok (.iaload, 1) := by decide +kernel
theorem dX11_at_40 : decode cX11_at 40 = .ok (.goto 5, 3) := by decide +kernel
theorem dX11_at_43 : decode cX11_at 43 = .ok (.bipush (-4), 2) := by decide +kernel
theorem dX11_at_45 : decode cX11_at 45 = .ok (.ireturn, 1) := by decide +kernel
set_option maxRecDepth 20000 in
theorem ggX11_first_X11_isRegister : GoodIn wsX11_first wsX11_isRegister := goodIn_r _ [7, 8, 9, 10, 6, 11] (by decide +kernel) (by decide +kernel)
set_option maxRecDepth 20000 in
theorem gX11_first_X11_isRegister : GoodIn wsX11_first (va_wsS RX11 96 yX11_isRegister wsX11_isRegister) := goodIn_app (goodIn_of _ (by decide +kernel)) ggX11_first_X11_isRegister
set_option maxRecDepth 20000 in
theorem ggX11_first_X11_in : GoodIn wsX11_first wsX11_in := goodIn_r _ [11] (by decide +kernel) (by decide +kernel)
set_option maxRecDepth 20000 in
theorem gX11_first_X11_in : GoodIn wsX11_first (va_wsS RX11 58 yX11_in wsX11_in) := goodIn_app (goodIn_of _ (by decide +kernel)) ggX11_first_X11_in
set_option maxRecDepth 20000 in
theorem ggX11_first_X11_lays : GoodIn wsX11_first wsX11_lays := goodIn_r _ [15, 16, 17, 2, 18, 19, 3, 20, 21, 22, 6, 23, 24, 25, 26, 27, 28, 29, 30, 31, 9, 10, 11, 32, 33, 34, 35, 36, 37, 38, 39, 40, 41, 42, 43, 44, 45, 46, 47, 48, 49, 50, 51, 52, 53, 54, 55, 56, 57, 58, 59, 60, 61] (by decide +kernel) (by decide +kernel)
set_option maxRecDepth 20000 in
theorem gX11_first_X11_lays : GoodIn wsX11_first (wsV RX11 125 RX11 yX11_lays wsX11_lays) := goodIn_app (goodIn_of _ (by decide +kernel)) ggX11_first_X11_lays
theorem dX11_first_0 : decode cX11_first 0 = .ok (.iload_n 1, 1) := by decide +kernel
theorem dX11_first_1 : decode cX11_first 1 = .ok (.invokestatic 96, 3) := by decide +kernel
theorem dX11_first_4 : decode cX11_first 4 = .ok (.ifCond .eq 15, 3) := by decide +kernel
theorem dX11_first_7 : decode cX11_first 7 = .ok (.iload_n 2, 1) := by decide +kernel
theorem dX11_first_8 : decode cX11_first 8 = .ok (.i2l, 1) := by decide +kernel
theorem dX11_first_9 : decode cX11_first 9 = .ok (.lconst 0, 1) := by decide +kernel
theorem dX11_first_10 : decode cX11_first 10 = .ok (.ldc2_w 129, 3) := by decide +kernel
theorem dX11_first_13 : decode cX11_first 13 = .ok (.invokestatic 58, 3) := by decide +kernel
theorem dX11_first_16 : decode cX11_first 16 = .ok (.ifCond .ne 5, 3) := by decide +kernel
theorem dX11_first_19 : decode cX11_first 19 = .ok (.iconst (-1), 1) := by decide +kernel
theorem dX11_first_20 : decode cX11_first 20 = .ok (.ireturn, 1) := by decide +kernel
theorem dX11_first_21 : decode cX11_first 21 = .ok (.aload_n 0, 1) := by decide +kernel
theorem dX11_first_22 : decode cX11_first 22 = .ok (.iload_n 1, 1) := by decide +kernel
theorem dX11_first_23 : decode cX11_first 23 = .ok (.invokevirtual 125, 3) := by decide +kernel
theorem dX11_first_26 : decode cX11_first 26 = .ok (.iconst 0, 1) := by decide +kernel
theorem dX11_first_27 : decode cX11_first 27 = .ok (.istore_n 3, 1) := by decide +kernel
theorem dX11_first_28 : decode cX11_first 28 = .ok (.iload_n 3, 1) := by decide +kernel
theorem dX11_first_29 : decode cX11_first 29 = .ok (.aload_n 0, 1) := by decide +kernel
theorem dX11_first_30 : decode cX11_first 30 = .ok (.getfield 101, 3) := by decide +kernel
theorem dX11_first_33 : decode cX11_first 33 = .ok (.if_icmp .ge 21, 3) := by decide +kernel
theorem dX11_first_36 : decode cX11_first 36 = .ok (.aload_n 0, 1) := by decide +kernel
theorem dX11_first_37 : decode cX11_first 37 = .ok (.getfield 24, 3) := by decide +kernel
theorem dX11_first_40 : decode cX11_first 40 = .ok (.iload_n 3, 1) := by decide +kernel
theorem dX11_first_41 : decode cX11_first 41 = .ok (.iaload, 1) := by decide +kernel
theorem dX11_first_42 : decode cX11_first 42 = .ok (.iload_n 2, 1) := by decide +kernel
theorem dX11_first_43 : decode cX11_first 43 = .ok (.if_icmp .ne 5, 3) := by decide +kernel
theorem dX11_first_46 : decode cX11_first 46 = .ok (.iload_n 3, 1) := by decide +kernel
theorem dX11_first_47 : decode cX11_first 47 = .ok (.ireturn, 1) := by decide +kernel
theorem dX11_first_48 : decode cX11_first 48 = .ok (.iinc 3 1, 3) := by decide +kernel
theorem dX11_first_51 : decode cX11_first 51 = .ok (.goto (-23), 3) := by decide +kernel
theorem dX11_first_54 : decode cX11_first 54 = .ok (.bipush (-4), 2) := by decide +kernel
theorem dX11_first_56 : decode cX11_first 56 = .ok (.ireturn, 1) := by decide +kernel
set_option maxRecDepth 20000 in
theorem ggX11_often_X11_isRegister : GoodIn wsX11_often wsX11_isRegister := goodIn_r _ [8, 9, 10, 11, 7, 12] (by decide +kernel) (by decide +kernel)
set_option maxRecDepth 20000 in
theorem gX11_often_X11_isRegister : GoodIn wsX11_often (va_wsS RX11 96 yX11_isRegister wsX11_isRegister) := goodIn_app (goodIn_of _ (by decide +kernel)) ggX11_often_X11_isRegister
set_option maxRecDepth 20000 in
theorem ggX11_often_X11_in : GoodIn wsX11_often wsX11_in := goodIn_r _ [12] (by decide +kernel) (by decide +kernel)
set_option maxRecDepth 20000 in
theorem gX11_often_X11_in : GoodIn wsX11_often (va_wsS RX11 58 yX11_in wsX11_in) := goodIn_app (goodIn_of _ (by decide +kernel)) ggX11_often_X11_in
set_option maxRecDepth 20000 in
theorem ggX11_often_X11_lays : GoodIn wsX11_often wsX11_lays := goodIn_r _ [16, 17, 18, 3, 19, 20, 4, 21, 22, 23, 7, 24, 25, 26, 27, 28, 29, 30, 31, 32, 10, 11, 12, 33, 34, 35, 36, 37, 38, 39, 40, 41, 42, 43, 44, 45, 46, 47, 48, 49, 50, 51, 52, 53, 54, 55, 56, 57, 58, 59, 60, 61, 62] (by decide +kernel) (by decide +kernel)
set_option maxRecDepth 20000 in
theorem gX11_often_X11_lays : GoodIn wsX11_often (wsV RX11 125 RX11 yX11_lays wsX11_lays) := goodIn_app (goodIn_of _ (by decide +kernel)) ggX11_often_X11_lays
theorem dX11_often_0 : decode cX11_often 0 = .ok (.iload_n 1, 1) := by decide +kernel
theorem dX11_often_1 : decode cX11_often 1 = .ok (.invokestatic 96, 3) := by decide +kernel
theorem dX11_often_4 : decode cX11_often 4 = .ok (.ifCond .eq 27, 3) := by decide +kernel
theorem dX11_often_7 : decode cX11_often 7 = .ok (.iload_n 2, 1) := by decide +kernel
theorem dX11_often_8 : decode cX11_often 8 = .ok (.i2l, 1) := by decide +kernel
theorem dX11_often_9 : decode cX11_often 9 = .ok (.lconst 0, 1) := by decide +kernel
theorem dX11_often_10 : decode cX11_often 10 = .ok (.ldc2_w 129, 3) := by decide +kernel
theorem dX11_often_13 : decode cX11_often 13 = .ok (.invokestatic 58, 3) := by decide +kernel
theorem dX11_often_16 : decode cX11_often 16 = .ok (.ifCond .eq 15, 3) := by decide +kernel
theorem dX11_often_19 : decode cX11_often 19 = .ok (.iload_n 3, 1) := by decide +kernel
theorem dX11_often_20 : decode cX11_often 20 = .ok (.i2l, 1) := by decide +kernel
theorem dX11_often_21 : decode cX11_often 21 = .ok (.lconst 0, 1) := by decide +kernel
theorem dX11_often_22 : decode cX11_often 22 = .ok (.ldc2_w 131, 3) := by decide +kernel
theorem dX11_often_25 : decode cX11_often 25 = .ok (.invokestatic 58, 3) := by decide +kernel
theorem dX11_often_28 : decode cX11_often 28 = .ok (.ifCond .ne 5, 3) := by decide +kernel
theorem dX11_often_31 : decode cX11_often 31 = .ok (.iconst (-1), 1) := by decide +kernel
theorem dX11_often_32 : decode cX11_often 32 = .ok (.ireturn, 1) := by decide +kernel
theorem dX11_often_33 : decode cX11_often 33 = .ok (.aload_n 0, 1) := by decide +kernel
theorem dX11_often_34 : decode cX11_often 34 = .ok (.iload_n 1, 1) := by decide +kernel
theorem dX11_often_35 : decode cX11_often 35 = .ok (.invokevirtual 125, 3) := by decide +kernel
theorem dX11_often_38 : decode cX11_often 38 = .ok (.iconst 0, 1) := by decide +kernel
theorem dX11_often_39 : decode cX11_often 39 = .ok (.istore 4, 2) := by decide +kernel
theorem dX11_often_41 : decode cX11_often 41 = .ok (.iconst 0, 1) := by decide +kernel
theorem dX11_often_42 : decode cX11_often 42 = .ok (.istore 5, 2) := by decide +kernel
theorem dX11_often_44 : decode cX11_often 44 = .ok (.iload 5, 2) := by decide +kernel
theorem dX11_often_46 : decode cX11_often 46 = .ok (.aload_n 0, 1) := by decide +kernel
theorem dX11_often_47 : decode cX11_often 47 = .ok (.getfield 101, 3) := by decide +kernel
theorem dX11_often_50 : decode cX11_often 50 = .ok (.if_icmp .ge 36, 3) := by decide +kernel
theorem dX11_often_53 : decode cX11_often 53 = .ok (.iload 5, 2) := by decide +kernel
theorem dX11_often_55 : decode cX11_often 55 = .ok (.iload_n 3, 1) := by decide +kernel
theorem dX11_often_56 : decode cX11_often 56 = .ok (.if_icmp .ge 30, 3) := by decide +kernel
theorem dX11_often_59 : decode cX11_often 59 = .ok (.iload 4, 2) := by decide +kernel
theorem dX11_often_61 : decode cX11_often 61 = .ok (.aload_n 0, 1) := by decide +kernel
theorem dX11_often_62 : decode cX11_often 62 = .ok (.getfield 24, 3) := by decide +kernel
theorem dX11_often_65 : decode cX11_often 65 = .ok (.iload 5, 2) := by decide +kernel
theorem dX11_often_67 : decode cX11_often 67 = .ok (.iaload, 1) := by decide +kernel
theorem dX11_often_68 : decode cX11_often 68 = .ok (.iload_n 2, 1) := by decide +kernel
theorem dX11_often_69 : decode cX11_often 69 = .ok (.if_icmp .ne 7, 3) := by decide +kernel
theorem dX11_often_72 : decode cX11_often 72 = .ok (.iconst 1, 1) := by decide +kernel
theorem dX11_often_73 : decode cX11_often 73 = .ok (.goto 4, 3) := by decide +kernel
theorem dX11_often_76 : decode cX11_often 76 = .ok (.iconst 0, 1) := by decide +kernel
theorem dX11_often_77 : decode cX11_often 77 = .ok (.iadd, 1) := by decide +kernel
theorem dX11_often_78 : decode cX11_often 78 = .ok (.istore 4, 2) := by decide +kernel
theorem dX11_often_80 : decode cX11_often 80 = .ok (.iinc 5 1, 3) := by decide +kernel
theorem dX11_often_83 : decode cX11_often 83 = .ok (.goto (-39), 3) := by decide +kernel
theorem dX11_often_86 : decode cX11_often 86 = .ok (.iload 4, 2) := by decide +kernel
theorem dX11_often_88 : decode cX11_often 88 = .ok (.ireturn, 1) := by decide +kernel
set_option maxRecDepth 20000 in
theorem ggX11_run_X11_isRegister : GoodIn wsX11_run wsX11_isRegister := goodIn_r _ [7, 8, 9, 10, 6, 11] (by decide +kernel) (by decide +kernel)
set_option maxRecDepth 20000 in
theorem gX11_run_X11_isRegister : GoodIn wsX11_run (va_wsS RX11 96 yX11_isRegister wsX11_isRegister) := goodIn_app (goodIn_of _ (by decide +kernel)) ggX11_run_X11_isRegister
set_option maxRecDepth 20000 in
theorem ggX11_run_X11_in : GoodIn wsX11_run wsX11_in := goodIn_r _ [11] (by decide +kernel) (by decide +kernel)
set_option maxRecDepth 20000 in
theorem gX11_run_X11_in : GoodIn wsX11_run (va_wsS RX11 58 yX11_in wsX11_in) := goodIn_app (goodIn_of _ (by decide +kernel)) ggX11_run_X11_in
set_option maxRecDepth 20000 in
theorem ggX11_run_X11_lays : GoodIn wsX11_run wsX11_lays := goodIn_r _ [15, 16, 17, 2, 18, 19, 3, 20, 21, 22, 6, 23, 24, 25, 26, 27, 28, 29, 30, 31, 9, 10, 11, 32, 33, 34, 35, 36, 37, 38, 39, 40, 41, 42, 43, 44, 45, 46, 47, 48, 49, 50, 51, 52, 53, 54, 55, 56, 57, 58, 59, 60, 61] (by decide +kernel) (by decide +kernel)
set_option maxRecDepth 20000 in
theorem gX11_run_X11_lays : GoodIn wsX11_run (wsV RX11 125 RX11 yX11_lays wsX11_lays) := goodIn_app (goodIn_of _ (by decide +kernel)) ggX11_run_X11_lays
theorem dX11_run_0 : decode cX11_run 0 = .ok (.iload_n 1, 1) := by decide +kernel
theorem dX11_run_1 : decode cX11_run 1 = .ok (.invokestatic 96, 3) := by decide +kernel
theorem dX11_run_4 : decode cX11_run 4 = .ok (.ifCond .eq 19, 3) := by decide +kernel
theorem dX11_run_7 : decode cX11_run 7 = .ok (.iload_n 2, 1) := by decide +kernel
theorem dX11_run_8 : decode cX11_run 8 = .ok (.ifCond .lt 15, 3) := by decide +kernel
theorem dX11_run_11 : decode cX11_run 11 = .ok (.iload_n 3, 1) := by decide +kernel
theorem dX11_run_12 : decode cX11_run 12 = .ok (.i2l, 1) := by decide +kernel
theorem dX11_run_13 : decode cX11_run 13 = .ok (.lconst 0, 1) := by decide +kernel
theorem dX11_run_14 : decode cX11_run 14 = .ok (.ldc2_w 72, 3) := by decide +kernel
theorem dX11_run_17 : decode cX11_run 17 = .ok (.invokestatic 58, 3) := by decide +kernel
theorem dX11_run_20 : decode cX11_run 20 = .ok (.ifCond .ne 5, 3) := by decide +kernel
theorem dX11_run_23 : decode cX11_run 23 = .ok (.iconst (-1), 1) := by decide +kernel
theorem dX11_run_24 : decode cX11_run 24 = .ok (.ireturn, 1) := by decide +kernel
theorem dX11_run_25 : decode cX11_run 25 = .ok (.aload_n 0, 1) := by decide +kernel
theorem dX11_run_26 : decode cX11_run 26 = .ok (.iload_n 1, 1) := by decide +kernel
theorem dX11_run_27 : decode cX11_run 27 = .ok (.invokevirtual 125, 3) := by decide +kernel
theorem dX11_run_30 : decode cX11_run 30 = .ok (.iconst 0, 1) := by decide +kernel
theorem dX11_run_31 : decode cX11_run 31 = .ok (.istore 4, 2) := by decide +kernel
theorem dX11_run_33 : decode cX11_run 33 = .ok (.iconst 0, 1) := by decide +kernel
theorem dX11_run_34 : decode cX11_run 34 = .ok (.istore 5, 2) := by decide +kernel
theorem dX11_run_36 : decode cX11_run 36 = .ok (.iload 4, 2) := by decide +kernel
theorem dX11_run_38 : decode cX11_run 38 = .ok (.aload_n 0, 1) := by decide +kernel
theorem dX11_run_39 : decode cX11_run 39 = .ok (.getfield 101, 3) := by decide +kernel
theorem dX11_run_42 : decode cX11_run 42 = .ok (.if_icmp .ge 85, 3) := by decide +kernel
theorem dX11_run_45 : decode cX11_run 45 = .ok (.iload 4, 2) := by decide +kernel
theorem dX11_run_47 : decode cX11_run 47 = .ok (.istore 6, 2) := by decide +kernel
theorem dX11_run_49 : decode cX11_run 49 = .ok (.iload 6, 2) := by decide +kernel
theorem dX11_run_51 : decode cX11_run 51 = .ok (.aload_n 0, 1) := by decide +kernel
theorem dX11_run_52 : decode cX11_run 52 = .ok (.getfield 101, 3) := by decide +kernel
theorem dX11_run_55 : decode cX11_run 55 = .ok (.if_icmp .ge 26, 3) := by decide +kernel
theorem dX11_run_58 : decode cX11_run 58 = .ok (.aload_n 0, 1) := by decide +kernel
theorem dX11_run_59 : decode cX11_run 59 = .ok (.getfield 24, 3) := by decide +kernel
theorem dX11_run_62 : decode cX11_run 62 = .ok (.iload 6, 2) := by decide +kernel
theorem dX11_run_64 : decode cX11_run 64 = .ok (.iaload, 1) := by decide +kernel
theorem dX11_run_65 : decode cX11_run 65 = .ok (.aload_n 0, 1) := by decide +kernel
theorem dX11_run_66 : decode cX11_run 66 = .ok (.getfield 24, 3) := by decide +kernel
theorem dX11_run_69 : decode cX11_run 69 = .ok (.iload 4, 2) := by decide +kernel
theorem dX11_run_71 : decode cX11_run 71 = .ok (.iaload, 1) := by decide +kernel
theorem dX11_run_72 : decode cX11_run 72 = .ok (.if_icmp .ne 9, 3) := by decide +kernel
theorem dX11_run_75 : decode cX11_run 75 = .ok (.iinc 6 1, 3) := by decide +kernel
theorem dX11_run_78 : decode cX11_run 78 = .ok (.goto (-29), 3) := by decide +kernel
theorem dX11_run_81 : decode cX11_run 81 = .ok (.iload 5, 2) := by decide +kernel
theorem dX11_run_83 : decode cX11_run 83 = .ok (.iload_n 2, 1) := by decide +kernel
theorem dX11_run_84 : decode cX11_run 84 = .ok (.if_icmp .ne 33, 3) := by decide +kernel
theorem dX11_run_87 : decode cX11_run 87 = .ok (.iload_n 3, 1) := by decide +kernel
theorem dX11_run_88 : decode cX11_run 88 = .ok (.ifCond .ne 13, 3) := by decide +kernel
theorem dX11_run_91 : decode cX11_run 91 = .ok (.aload_n 0, 1) := by decide +kernel
theorem dX11_run_92 : decode cX11_run 92 = .ok (.getfield 24, 3) := by decide +kernel
theorem dX11_run_95 : decode cX11_run 95 = .ok (.iload 4, 2) := by decide +kernel
theorem dX11_run_97 : decode cX11_run 97 = .ok (.iaload, 1) := by decide +kernel
theorem dX11_run_98 : decode cX11_run 98 = .ok (.goto 18, 3) := by decide +kernel
theorem dX11_run_101 : decode cX11_run 101 = .ok (.iload_n 3, 1) := by decide +kernel
theorem dX11_run_102 : decode cX11_run 102 = .ok (.iconst 1, 1) := by decide +kernel
theorem dX11_run_103 : decode cX11_run 103 = .ok (.if_icmp .ne 11, 3) := by decide +kernel
theorem dX11_run_106 : decode cX11_run 106 = .ok (.iload 6, 2) := by decide +kernel
theorem dX11_run_108 : decode cX11_run 108 = .ok (.iload 4, 2) := by decide +kernel
theorem dX11_run_110 : decode cX11_run 110 = .ok (.isub, 1) := by decide +kernel
theorem dX11_run_111 : decode cX11_run 111 = .ok (.goto 5, 3) := by decide +kernel
theorem dX11_run_114 : decode cX11_run 114 = .ok (.iload 4, 2) := by decide +kernel
theorem dX11_run_116 : decode cX11_run 116 = .ok (.ireturn, 1) := by decide +kernel
theorem dX11_run_117 : decode cX11_run 117 = .ok (.iinc 5 1, 3) := by decide +kernel
theorem dX11_run_120 : decode cX11_run 120 = .ok (.iload 6, 2) := by decide +kernel
theorem dX11_run_122 : decode cX11_run 122 = .ok (.istore 4, 2) := by decide +kernel
theorem dX11_run_124 : decode cX11_run 124 = .ok (.goto (-88), 3) := by decide +kernel
theorem dX11_run_127 : decode cX11_run 127 = .ok (.bipush (-4), 2) := by decide +kernel
theorem dX11_run_129 : decode cX11_run 129 = .ok (.ireturn, 1) := by decide +kernel
set_option maxRecDepth 20000 in
theorem ggX11_most_X11_isRegister : GoodIn wsX11_most wsX11_isRegister := goodIn_r _ [8, 2, 9, 10, 7, 11] (by decide +kernel) (by decide +kernel)
set_option maxRecDepth 20000 in
theorem gX11_most_X11_isRegister : GoodIn wsX11_most (va_wsS RX11 96 yX11_isRegister wsX11_isRegister) := goodIn_app (goodIn_of _ (by decide +kernel)) ggX11_most_X11_isRegister
set_option maxRecDepth 20000 in
theorem ggX11_most_X11_in : GoodIn wsX11_most wsX11_in := goodIn_r _ [11] (by decide +kernel) (by decide +kernel)
set_option maxRecDepth 20000 in
theorem gX11_most_X11_in : GoodIn wsX11_most (va_wsS RX11 58 yX11_in wsX11_in) := goodIn_app (goodIn_of _ (by decide +kernel)) ggX11_most_X11_in
set_option maxRecDepth 20000 in
theorem ggX11_most_X11_lays : GoodIn wsX11_most wsX11_lays := goodIn_r _ [15, 16, 17, 3, 18, 19, 4, 20, 21, 22, 7, 23, 24, 25, 26, 27, 28, 29, 30, 31, 9, 10, 11, 32, 33, 34, 35, 36, 37, 38, 39, 40, 41, 42, 43, 44, 45, 46, 47, 48, 49, 50, 51, 52, 53, 54, 55, 56, 57, 58, 59, 60, 61] (by decide +kernel) (by decide +kernel)
set_option maxRecDepth 20000 in
theorem gX11_most_X11_lays : GoodIn wsX11_most (wsV RX11 125 RX11 yX11_lays wsX11_lays) := goodIn_app (goodIn_of _ (by decide +kernel)) ggX11_most_X11_lays
theorem dX11_most_0 : decode cX11_most 0 = .ok (.iload_n 1, 1) := by decide +kernel
theorem dX11_most_1 : decode cX11_most 1 = .ok (.invokestatic 96, 3) := by decide +kernel
theorem dX11_most_4 : decode cX11_most 4 = .ok (.ifCond .eq 27, 3) := by decide +kernel
theorem dX11_most_7 : decode cX11_most 7 = .ok (.iload_n 2, 1) := by decide +kernel
theorem dX11_most_8 : decode cX11_most 8 = .ok (.i2l, 1) := by decide +kernel
theorem dX11_most_9 : decode cX11_most 9 = .ok (.lconst 1, 1) := by decide +kernel
theorem dX11_most_10 : decode cX11_most 10 = .ok (.ldc2_w 131, 3) := by decide +kernel
theorem dX11_most_13 : decode cX11_most 13 = .ok (.invokestatic 58, 3) := by decide +kernel
theorem dX11_most_16 : decode cX11_most 16 = .ok (.ifCond .eq 15, 3) := by decide +kernel
theorem dX11_most_19 : decode cX11_most 19 = .ok (.iload_n 3, 1) := by decide +kernel
theorem dX11_most_20 : decode cX11_most 20 = .ok (.i2l, 1) := by decide +kernel
theorem dX11_most_21 : decode cX11_most 21 = .ok (.lconst 0, 1) := by decide +kernel
theorem dX11_most_22 : decode cX11_most 22 = .ok (.ldc2_w 82, 3) := by decide +kernel
theorem dX11_most_25 : decode cX11_most 25 = .ok (.invokestatic 58, 3) := by decide +kernel
theorem dX11_most_28 : decode cX11_most 28 = .ok (.ifCond .ne 5, 3) := by decide +kernel
theorem dX11_most_31 : decode cX11_most 31 = .ok (.iconst (-1), 1) := by decide +kernel
theorem dX11_most_32 : decode cX11_most 32 = .ok (.ireturn, 1) := by decide +kernel
theorem dX11_most_33 : decode cX11_most 33 = .ok (.aload_n 0, 1) := by decide +kernel
theorem dX11_most_34 : decode cX11_most 34 = .ok (.iload_n 1, 1) := by decide +kernel
theorem dX11_most_35 : decode cX11_most 35 = .ok (.invokevirtual 125, 3) := by decide +kernel
theorem dX11_most_38 : decode cX11_most 38 = .ok (.iconst 0, 1) := by decide +kernel
theorem dX11_most_39 : decode cX11_most 39 = .ok (.istore 4, 2) := by decide +kernel
theorem dX11_most_41 : decode cX11_most 41 = .ok (.iconst 0, 1) := by decide +kernel
theorem dX11_most_42 : decode cX11_most 42 = .ok (.istore 5, 2) := by decide +kernel
theorem dX11_most_44 : decode cX11_most 44 = .ok (.iconst 0, 1) := by decide +kernel
theorem dX11_most_45 : decode cX11_most 45 = .ok (.istore 6, 2) := by decide +kernel
theorem dX11_most_47 : decode cX11_most 47 = .ok (.iconst 0, 1) := by decide +kernel
theorem dX11_most_48 : decode cX11_most 48 = .ok (.istore 7, 2) := by decide +kernel
theorem dX11_most_50 : decode cX11_most 50 = .ok (.iconst 0, 1) := by decide +kernel
theorem dX11_most_51 : decode cX11_most 51 = .ok (.istore 8, 2) := by decide +kernel
theorem dX11_most_53 : decode cX11_most 53 = .ok (.iload 8, 2) := by decide +kernel
theorem dX11_most_55 : decode cX11_most 55 = .ok (.aload_n 0, 1) := by decide +kernel
theorem dX11_most_56 : decode cX11_most 56 = .ok (.getfield 101, 3) := by decide +kernel
theorem dX11_most_59 : decode cX11_most 59 = .ok (.if_icmp .ge 154, 3) := by decide +kernel
theorem dX11_most_62 : decode cX11_most 62 = .ok (.iload 8, 2) := by decide +kernel
theorem dX11_most_64 : decode cX11_most 64 = .ok (.iload_n 2, 1) := by decide +kernel
theorem dX11_most_65 : decode cX11_most 65 = .ok (.if_icmp .ge 148, 3) := by decide +kernel
theorem dX11_most_68 : decode cX11_most 68 = .ok (.aload_n 0, 1) := by decide +kernel
theorem dX11_most_69 : decode cX11_most 69 = .ok (.getfield 24, 3) := by decide +kernel
theorem dX11_most_72 : decode cX11_most 72 = .ok (.iload 8, 2) := by decide +kernel
theorem dX11_most_74 : decode cX11_most 74 = .ok (.iaload, 1) := by decide +kernel
theorem dX11_most_75 : decode cX11_most 75 = .ok (.aload_n 0, 1) := by decide +kernel
theorem dX11_most_76 : decode cX11_most 76 = .ok (.getfield 24, 3) := by decide +kernel
theorem dX11_most_79 : decode cX11_most 79 = .ok (.iload 4, 2) := by decide +kernel
theorem dX11_most_81 : decode cX11_most 81 = .ok (.iaload, 1) := by decide +kernel
theorem dX11_most_82 : decode cX11_most 82 = .ok (.if_icmp .le 8, 3) := by decide +kernel
theorem dX11_most_85 : decode cX11_most 85 = .ok (.iload 8, 2) := by decide +kernel
theorem dX11_most_87 : decode cX11_most 87 = .ok (.goto 5, 3) := by decide +kernel
theorem dX11_most_90 : decode cX11_most 90 = .ok (.iload 4, 2) := by decide +kernel
theorem dX11_most_92 : decode cX11_most 92 = .ok (.istore 4, 2) := by decide +kernel
theorem dX11_most_94 : decode cX11_most 94 = .ok (.iload 8, 2) := by decide +kernel
theorem dX11_most_96 : decode cX11_most 96 = .ok (.ifCond .le 29, 3) := by decide +kernel
theorem dX11_most_99 : decode cX11_most 99 = .ok (.aload_n 0, 1) := by decide +kernel
theorem dX11_most_100 : decode cX11_most 100 = .ok (.getfield 24, 3) := by decide +kernel
theorem dX11_most_103 : decode cX11_most 103 = .ok (.iload 8, 2) := by decide +kernel
theorem dX11_most_105 : decode cX11_most 105 = .ok (.iaload, 1) := by decide +kernel
theorem dX11_most_106 : decode cX11_most 106 = .ok (.aload_n 0, 1) := by decide +kernel
theorem dX11_most_107 : decode cX11_most 107 = .ok (.getfield 24, 3) := by decide +kernel
theorem dX11_most_110 : decode cX11_most 110 = .ok (.iload 8, 2) := by decide +kernel
theorem dX11_most_112 : decode cX11_most 112 = .ok (.iconst 1, 1) := by decide +kernel
theorem dX11_most_113 : decode cX11_most 113 = .ok (.isub, 1) := by decide +kernel
theorem dX11_most_114 : decode cX11_most 114 = .ok (.iaload, 1) := by decide +kernel
theorem dX11_most_115 : decode cX11_most 115 = .ok (.if_icmp .ne 10, 3) := by decide +kernel
theorem dX11_most_118 : decode cX11_most 118 = .ok (.iload 6, 2) := by decide +kernel
theorem dX11_most_120 : decode cX11_most 120 = .ok (.iconst 1, 1) := by decide +kernel
theorem dX11_most_121 : decode cX11_most 121 = .ok (.iadd, 1) := by decide +kernel
theorem dX11_most_122 : decode cX11_most 122 = .ok (.goto 4, 3) := by decide +kernel
theorem dX11_most_125 : decode cX11_most 125 = .ok (.iconst 1, 1) := by decide +kernel
theorem dX11_most_126 : decode cX11_most 126 = .ok (.istore 6, 2) := by decide +kernel
theorem dX11_most_128 : decode cX11_most 128 = .ok (.iload 6, 2) := by decide +kernel
theorem dX11_most_130 : decode cX11_most 130 = .ok (.iload 5, 2) := by decide +kernel
theorem dX11_most_132 : decode cX11_most 132 = .ok (.if_icmp .le 8, 3) := by decide +kernel
theorem dX11_most_135 : decode cX11_most 135 = .ok (.iload 6, 2) := by decide +kernel
theorem dX11_most_137 : decode cX11_most 137 = .ok (.goto 5, 3) := by decide +kernel
theorem dX11_most_140 : decode cX11_most 140 = .ok (.iload 5, 2) := by decide +kernel
theorem dX11_most_142 : decode cX11_most 142 = .ok (.istore 5, 2) := by decide +kernel
theorem dX11_most_144 : decode cX11_most 144 = .ok (.iconst 1, 1) := by decide +kernel
theorem dX11_most_145 : decode cX11_most 145 = .ok (.istore 9, 2) := by decide +kernel
theorem dX11_most_147 : decode cX11_most 147 = .ok (.iconst 0, 1) := by decide +kernel
theorem dX11_most_148 : decode cX11_most 148 = .ok (.istore 10, 2) := by decide +kernel
theorem dX11_most_150 : decode cX11_most 150 = .ok (.iload 10, 2) := by decide +kernel
theorem dX11_most_152 : decode cX11_most 152 = .ok (.iload 8, 2) := by decide +kernel
theorem dX11_most_154 : decode cX11_most 154 = .ok (.if_icmp .ge 38, 3) := by decide +kernel
theorem dX11_most_157 : decode cX11_most 157 = .ok (.iload 9, 2) := by decide +kernel
theorem dX11_most_159 : decode cX11_most 159 = .ok (.ifCond .eq 33, 3) := by decide +kernel
theorem dX11_most_162 : decode cX11_most 162 = .ok (.aload_n 0, 1) := by decide +kernel
theorem dX11_most_163 : decode cX11_most 163 = .ok (.getfield 24, 3) := by decide +kernel
theorem dX11_most_166 : decode cX11_most 166 = .ok (.iload 10, 2) := by decide +kernel
theorem dX11_most_168 : decode cX11_most 168 = .ok (.iaload, 1) := by decide +kernel
theorem dX11_most_169 : decode cX11_most 169 = .ok (.aload_n 0, 1) := by decide +kernel
theorem dX11_most_170 : decode cX11_most 170 = .ok (.getfield 24, 3) := by decide +kernel
theorem dX11_most_173 : decode cX11_most 173 = .ok (.iload 8, 2) := by decide +kernel
theorem dX11_most_175 : decode cX11_most 175 = .ok (.iaload, 1) := by decide +kernel
theorem dX11_most_176 : decode cX11_most 176 = .ok (.if_icmp .eq 7, 3) := by decide +kernel
theorem dX11_most_179 : decode cX11_most 179 = .ok (.iconst 1, 1) := by decide +kernel
theorem dX11_most_180 : decode cX11_most 180 = .ok (.goto 4, 3) := by decide +kernel
theorem dX11_most_183 : decode cX11_most 183 = .ok (.iconst 0, 1) := by decide +kernel
theorem dX11_most_184 : decode cX11_most 184 = .ok (.istore 9, 2) := by decide +kernel
theorem dX11_most_186 : decode cX11_most 186 = .ok (.iinc 10 1, 3) := by decide +kernel
theorem dX11_most_189 : decode cX11_most 189 = .ok (.goto (-39), 3) := by decide +kernel
theorem dX11_most_192 : decode cX11_most 192 = .ok (.iload 7, 2) := by decide +kernel
theorem dX11_most_194 : decode cX11_most 194 = .ok (.iload 9, 2) := by decide +kernel
theorem dX11_most_196 : decode cX11_most 196 = .ok (.ifCond .eq 7, 3) := by decide +kernel
theorem dX11_most_199 : decode cX11_most 199 = .ok (.iconst 1, 1) := by decide +kernel
theorem dX11_most_200 : decode cX11_most 200 = .ok (.goto 4, 3) := by decide +kernel
theorem dX11_most_203 : decode cX11_most 203 = .ok (.iconst 0, 1) := by decide +kernel
theorem dX11_most_204 : decode cX11_most 204 = .ok (.iadd, 1) := by decide +kernel
theorem dX11_most_205 : decode cX11_most 205 = .ok (.istore 7, 2) := by decide +kernel
theorem dX11_most_207 : decode cX11_most 207 = .ok (.iinc 8 1, 3) := by decide +kernel
theorem dX11_most_210 : decode cX11_most 210 = .ok (.goto (-157), 3) := by decide +kernel
theorem dX11_most_213 : decode cX11_most 213 = .ok (.iload_n 3, 1) := by decide +kernel
theorem dX11_most_214 : decode cX11_most 214 = .ok (.ifCond .ne 13, 3) := by decide +kernel
theorem dX11_most_217 : decode cX11_most 217 = .ok (.aload_n 0, 1) := by decide +kernel
theorem dX11_most_218 : decode cX11_most 218 = .ok (.getfield 24, 3) := by decide +kernel
theorem dX11_most_221 : decode cX11_most 221 = .ok (.iload 4, 2) := by decide +kernel
theorem dX11_most_223 : decode cX11_most 223 = .ok (.iaload, 1) := by decide +kernel
theorem dX11_most_224 : decode cX11_most 224 = .ok (.goto 25, 3) := by decide +kernel
theorem dX11_most_227 : decode cX11_most 227 = .ok (.iload_n 3, 1) := by decide +kernel
theorem dX11_most_228 : decode cX11_most 228 = .ok (.iconst 1, 1) := by decide +kernel
theorem dX11_most_229 : decode cX11_most 229 = .ok (.if_icmp .ne 8, 3) := by decide +kernel
theorem dX11_most_232 : decode cX11_most 232 = .ok (.iload 4, 2) := by decide +kernel
theorem dX11_most_234 : decode cX11_most 234 = .ok (.goto 15, 3) := by decide +kernel
theorem dX11_most_237 : decode cX11_most 237 = .ok (.iload_n 3, 1) := by decide +kernel
theorem dX11_most_238 : decode cX11_most 238 = .ok (.iconst 2, 1) := by decide +kernel
theorem dX11_most_239 : decode cX11_most 239 = .ok (.if_icmp .ne 8, 3) := by decide +kernel
theorem dX11_most_242 : decode cX11_most 242 = .ok (.iload 5, 2) := by decide +kernel
theorem dX11_most_244 : decode cX11_most 244 = .ok (.goto 5, 3) := by decide +kernel
theorem dX11_most_247 : decode cX11_most 247 = .ok (.iload 7, 2) := by decide +kernel
theorem dX11_most_249 : decode cX11_most 249 = .ok (.ireturn, 1) := by decide +kernel
set_option maxRecDepth 20000 in
theorem ggX11_around_X11_isRegister : GoodIn wsX11_around wsX11_isRegister := goodIn_r _ [6, 7, 8, 9, 5, 10] (by decide +kernel) (by decide +kernel)
set_option maxRecDepth 20000 in
theorem gX11_around_X11_isRegister : GoodIn wsX11_around (va_wsS RX11 96 yX11_isRegister wsX11_isRegister) := goodIn_app (goodIn_of _ (by decide +kernel)) ggX11_around_X11_isRegister
set_option maxRecDepth 20000 in
theorem ggX11_around_X11_in : GoodIn wsX11_around wsX11_in := goodIn_r _ [10] (by decide +kernel) (by decide +kernel)
set_option maxRecDepth 20000 in
theorem gX11_around_X11_in : GoodIn wsX11_around (va_wsS RX11 58 yX11_in wsX11_in) := goodIn_app (goodIn_of _ (by decide +kernel)) ggX11_around_X11_in
set_option maxRecDepth 20000 in
theorem ggX11_around_X11_lays : GoodIn wsX11_around wsX11_lays := goodIn_r _ [14, 15, 16, 1, 17, 18, 2, 19, 20, 21, 5, 22, 23, 24, 25, 26, 27, 28, 29, 30, 8, 9, 10, 31, 32, 33, 34, 35, 36, 37, 38, 39, 40, 41, 42, 43, 44, 45, 46, 47, 48, 49, 50, 51, 52, 53, 54, 55, 56, 57, 58, 59, 60] (by decide +kernel) (by decide +kernel)
set_option maxRecDepth 20000 in
theorem gX11_around_X11_lays : GoodIn wsX11_around (wsV RX11 125 RX11 yX11_lays wsX11_lays) := goodIn_app (goodIn_of _ (by decide +kernel)) ggX11_around_X11_lays
theorem dX11_around_0 : decode cX11_around 0 = .ok (.iload_n 1, 1) := by decide +kernel
theorem dX11_around_1 : decode cX11_around 1 = .ok (.invokestatic 96, 3) := by decide +kernel
theorem dX11_around_4 : decode cX11_around 4 = .ok (.ifCond .eq 13, 3) := by decide +kernel
theorem dX11_around_7 : decode cX11_around 7 = .ok (.iload_n 2, 1) := by decide +kernel
theorem dX11_around_8 : decode cX11_around 8 = .ok (.i2l, 1) := by decide +kernel
theorem dX11_around_9 : decode cX11_around 9 = .ok (.lconst 0, 1) := by decide +kernel
theorem dX11_around_10 : decode cX11_around 10 = .ok (.lconst 1, 1) := by decide +kernel
theorem dX11_around_11 : decode cX11_around 11 = .ok (.invokestatic 58, 3) := by decide +kernel
theorem dX11_around_14 : decode cX11_around 14 = .ok (.ifCond .ne 5, 3) := by decide +kernel
theorem dX11_around_17 : decode cX11_around 17 = .ok (.iconst (-1), 1) := by decide +kernel
theorem dX11_around_18 : decode cX11_around 18 = .ok (.ireturn, 1) := by decide +kernel
theorem dX11_around_19 : decode cX11_around 19 = .ok (.aload_n 0, 1) := by decide +kernel
theorem dX11_around_20 : decode cX11_around 20 = .ok (.iload_n 1, 1) := by decide +kernel
theorem dX11_around_21 : decode cX11_around 21 = .ok (.invokevirtual 125, 3) := by decide +kernel
theorem dX11_around_24 : decode cX11_around 24 = .ok (.iconst 1, 1) := by decide +kernel
theorem dX11_around_25 : decode cX11_around 25 = .ok (.istore_n 3, 1) := by decide +kernel
theorem dX11_around_26 : decode cX11_around 26 = .ok (.iload_n 3, 1) := by decide +kernel
theorem dX11_around_27 : decode cX11_around 27 = .ok (.sipush 600, 3) := by decide +kernel
theorem dX11_around_30 : decode cX11_around 30 = .ok (.if_icmp .gt 80, 3) := by decide +kernel
theorem dX11_around_33 : decode cX11_around 33 = .ok (.aload_n 0, 1) := by decide +kernel
theorem dX11_around_34 : decode cX11_around 34 = .ok (.getfield 101, 3) := by decide +kernel
theorem dX11_around_37 : decode cX11_around 37 = .ok (.iload_n 3, 1) := by decide +kernel
theorem dX11_around_38 : decode cX11_around 38 = .ok (.isub, 1) := by decide +kernel
theorem dX11_around_39 : decode cX11_around 39 = .ok (.istore 4, 2) := by decide +kernel
theorem dX11_around_41 : decode cX11_around 41 = .ok (.iload 4, 2) := by decide +kernel
theorem dX11_around_43 : decode cX11_around 43 = .ok (.ifCond .le 32, 3) := by decide +kernel
theorem dX11_around_46 : decode cX11_around 46 = .ok (.aload_n 0, 1) := by decide +kernel
theorem dX11_around_47 : decode cX11_around 47 = .ok (.getfield 24, 3) := by decide +kernel
theorem dX11_around_50 : decode cX11_around 50 = .ok (.iload 4, 2) := by decide +kernel
theorem dX11_around_52 : decode cX11_around 52 = .ok (.iconst 1, 1) := by decide +kernel
theorem dX11_around_53 : decode cX11_around 53 = .ok (.isub, 1) := by decide +kernel
theorem dX11_around_54 : decode cX11_around 54 = .ok (.iaload, 1) := by decide +kernel
theorem dX11_around_55 : decode cX11_around 55 = .ok (.aload_n 0, 1) := by decide +kernel
theorem dX11_around_56 : decode cX11_around 56 = .ok (.getfield 24, 3) := by decide +kernel
theorem dX11_around_59 : decode cX11_around 59 = .ok (.iload 4, 2) := by decide +kernel
theorem dX11_around_61 : decode cX11_around 61 = .ok (.iconst 1, 1) := by decide +kernel
theorem dX11_around_62 : decode cX11_around 62 = .ok (.isub, 1) := by decide +kernel
theorem dX11_around_63 : decode cX11_around 63 = .ok (.iload_n 3, 1) := by decide +kernel
theorem dX11_around_64 : decode cX11_around 64 = .ok (.iadd, 1) := by decide +kernel
theorem dX11_around_65 : decode cX11_around 65 = .ok (.iaload, 1) := by decide +kernel
theorem dX11_around_66 : decode cX11_around 66 = .ok (.if_icmp .ne 9, 3) := by decide +kernel
theorem dX11_around_69 : decode cX11_around 69 = .ok (.iinc 4 (-1), 3) := by decide +kernel
theorem dX11_around_72 : decode cX11_around 72 = .ok (.goto (-31), 3) := by decide +kernel
theorem dX11_around_75 : decode cX11_around 75 = .ok (.iload 4, 2) := by decide +kernel
theorem dX11_around_77 : decode cX11_around 77 = .ok (.ifCond .lt 27, 3) := by decide +kernel
theorem dX11_around_80 : decode cX11_around 80 = .ok (.aload_n 0, 1) := by decide +kernel
theorem dX11_around_81 : decode cX11_around 81 = .ok (.getfield 101, 3) := by decide +kernel
theorem dX11_around_84 : decode cX11_around 84 = .ok (.iload 4, 2) := by decide +kernel
theorem dX11_around_86 : decode cX11_around 86 = .ok (.isub, 1) := by decide +kernel
theorem dX11_around_87 : decode cX11_around 87 = .ok (.iconst 3, 1) := by decide +kernel
theorem dX11_around_88 : decode cX11_around 88 = .ok (.iload_n 3, 1) := by decide +kernel
theorem dX11_around_89 : decode cX11_around 89 = .ok (.imul, 1) := by decide +kernel
theorem dX11_around_90 : decode cX11_around 90 = .ok (.if_icmp .lt 14, 3) := by decide +kernel
theorem dX11_around_93 : decode cX11_around 93 = .ok (.iload_n 2, 1) := by decide +kernel
theorem dX11_around_94 : decode cX11_around 94 = .ok (.ifCond .ne 7, 3) := by decide +kernel
theorem dX11_around_97 : decode cX11_around 97 = .ok (.iload_n 3, 1) := by decide +kernel
theorem dX11_around_98 : decode cX11_around 98 = .ok (.goto 5, 3) := by decide +kernel
theorem dX11_around_101 : decode cX11_around 101 = .ok (.iload 4, 2) := by decide +kernel
theorem dX11_around_103 : decode cX11_around 103 = .ok (.ireturn, 1) := by decide +kernel
theorem dX11_around_104 : decode cX11_around 104 = .ok (.iinc 3 1, 3) := by decide +kernel
theorem dX11_around_107 : decode cX11_around 107 = .ok (.goto (-81), 3) := by decide +kernel
theorem dX11_around_110 : decode cX11_around 110 = .ok (.bipush (-4), 2) := by decide +kernel
theorem dX11_around_112 : decode cX11_around 112 = .ok (.ireturn, 1) := by decide +kernel
set_option maxRecDepth 20000 in
theorem ggX11_number_X11_in : GoodIn wsX11_number wsX11_in := goodIn_r _ [7] (by decide +kernel) (by decide +kernel)
set_option maxRecDepth 20000 in
theorem gX11_number_X11_in : GoodIn wsX11_number (va_wsS RX11 58 yX11_in wsX11_in) := goodIn_app (goodIn_of _ (by decide +kernel)) ggX11_number_X11_in
theorem dX11_number_0 : decode cX11_number 0 = .ok (.iload_n 1, 1) := by decide +kernel
theorem dX11_number_1 : decode cX11_number 1 = .ok (.i2l, 1) := by decide +kernel
theorem dX11_number_2 : decode cX11_number 2 = .ok (.lconst 0, 1) := by decide +kernel
theorem dX11_number_3 : decode cX11_number 3 = .ok (.ldc2_w 129, 3) := by decide +kernel
theorem dX11_number_6 : decode cX11_number 6 = .ok (.invokestatic 58, 3) := by decide +kernel
theorem dX11_number_9 : decode cX11_number 9 = .ok (.ifCond .ne 5, 3) := by decide +kernel
theorem dX11_number_12 : decode cX11_number 12 = .ok (.iconst (-1), 1) := by decide +kernel
theorem dX11_number_13 : decode cX11_number 13 = .ok (.ireturn, 1) := by decide +kernel
theorem dX11_number_14 : decode cX11_number 14 = .ok (.aload_n 0, 1) := by decide +kernel
theorem dX11_number_15 : decode cX11_number 15 = .ok (.getfield 133, 3) := by decide +kernel
theorem dX11_number_18 : decode cX11_number 18 = .ok (.bipush 40, 2) := by decide +kernel
theorem dX11_number_20 : decode cX11_number 20 = .ok (.if_icmp .ne 6, 3) := by decide +kernel
theorem dX11_number_23 : decode cX11_number 23 = .ok (.bipush (-3), 2) := by decide +kernel
theorem dX11_number_25 : decode cX11_number 25 = .ok (.ireturn, 1) := by decide +kernel
theorem dX11_number_26 : decode cX11_number 26 = .ok (.aload_n 0, 1) := by decide +kernel
theorem dX11_number_27 : decode cX11_number 27 = .ok (.getfield 31, 3) := by decide +kernel
theorem dX11_number_30 : decode cX11_number 30 = .ok (.aload_n 0, 1) := by decide +kernel
theorem dX11_number_31 : decode cX11_number 31 = .ok (.getfield 133, 3) := by decide +kernel
theorem dX11_number_34 : decode cX11_number 34 = .ok (.iload_n 1, 1) := by decide +kernel
theorem dX11_number_35 : decode cX11_number 35 = .ok (.iastore, 1) := by decide +kernel
theorem dX11_number_36 : decode cX11_number 36 = .ok (.aload_n 0, 1) := by decide +kernel
theorem dX11_number_37 : decode cX11_number 37 = .ok (.dup, 1) := by decide +kernel
theorem dX11_number_38 : decode cX11_number 38 = .ok (.getfield 133, 3) := by decide +kernel
theorem dX11_number_41 : decode cX11_number 41 = .ok (.iconst 1, 1) := by decide +kernel
theorem dX11_number_42 : decode cX11_number 42 = .ok (.iadd, 1) := by decide +kernel
theorem dX11_number_43 : decode cX11_number 43 = .ok (.putfield 133, 3) := by decide +kernel
theorem dX11_number_46 : decode cX11_number 46 = .ok (.aload_n 0, 1) := by decide +kernel
theorem dX11_number_47 : decode cX11_number 47 = .ok (.getfield 133, 3) := by decide +kernel
theorem dX11_number_50 : decode cX11_number 50 = .ok (.ireturn, 1) := by decide +kernel
theorem dX11_noNumbers_0 : decode cX11_noNumbers 0 = .ok (.aload_n 0, 1) := by decide +kernel
theorem dX11_noNumbers_1 : decode cX11_noNumbers 1 = .ok (.getfield 133, 3) := by decide +kernel
theorem dX11_noNumbers_4 : decode cX11_noNumbers 4 = .ok (.istore_n 1, 1) := by decide +kernel
theorem dX11_noNumbers_5 : decode cX11_noNumbers 5 = .ok (.aload_n 0, 1) := by decide +kernel
theorem dX11_noNumbers_6 : decode cX11_noNumbers 6 = .ok (.iconst 0, 1) := by decide +kernel
theorem dX11_noNumbers_7 : decode cX11_noNumbers 7 = .ok (.putfield 133, 3) := by decide +kernel
theorem dX11_noNumbers_10 : decode cX11_noNumbers 10 = .ok (.iload_n 1, 1) := by decide +kernel
theorem dX11_noNumbers_11 : decode cX11_noNumbers 11 = .ok (.ireturn, 1) := by decide +kernel
set_option maxRecDepth 20000 in
theorem ggX11_breaksAt_X11_lays : GoodIn wsX11_breaksAt wsX11_lays := goodIn_r _ [9, 10, 11, 2, 12, 13, 3, 14, 15, 16, 8, 17, 18, 19, 20, 21, 22, 23, 24, 25, 26, 27, 28, 29, 30, 31, 32, 33, 34, 35, 36, 37, 38, 39, 40, 41, 42, 43, 44, 45, 46, 47, 48, 49, 50, 51, 52, 53, 54, 55, 56, 57, 58] (by decide +kernel) (by decide +kernel)
set_option maxRecDepth 20000 in
theorem gX11_breaksAt_X11_lays : GoodIn wsX11_breaksAt (wsV RX11 125 RX11 yX11_lays wsX11_lays) := goodIn_app (goodIn_of _ (by decide +kernel)) ggX11_breaksAt_X11_lays
theorem dX11_breaksAt_0 : decode cX11_breaksAt 0 = .ok (.aload_n 0, 1) := by decide +kernel
theorem dX11_breaksAt_1 : decode cX11_breaksAt 1 = .ok (.iload_n 1, 1) := by decide +kernel
theorem dX11_breaksAt_2 : decode cX11_breaksAt 2 = .ok (.invokevirtual 125, 3) := by decide +kernel
theorem dX11_breaksAt_5 : decode cX11_breaksAt 5 = .ok (.iconst 0, 1) := by decide +kernel
theorem dX11_breaksAt_6 : decode cX11_breaksAt 6 = .ok (.istore_n 2, 1) := by decide +kernel
theorem dX11_breaksAt_7 : decode cX11_breaksAt 7 = .ok (.iload_n 2, 1) := by decide +kernel
theorem dX11_breaksAt_8 : decode cX11_breaksAt 8 = .ok (.aload_n 0, 1) := by decide +kernel
theorem dX11_breaksAt_9 : decode cX11_breaksAt 9 = .ok (.getfield 133, 3) := by decide +kernel
theorem dX11_breaksAt_12 : decode cX11_breaksAt 12 = .ok (.if_icmp .ge 34, 3) := by decide +kernel
theorem dX11_breaksAt_15 : decode cX11_breaksAt 15 = .ok (.iload_n 2, 1) := by decide +kernel
theorem dX11_breaksAt_16 : decode cX11_breaksAt 16 = .ok (.aload_n 0, 1) := by decide +kernel
theorem dX11_breaksAt_17 : decode cX11_breaksAt 17 = .ok (.getfield 101, 3) := by decide +kernel
theorem dX11_breaksAt_20 : decode cX11_breaksAt 20 = .ok (.if_icmp .ge 18, 3) := by decide +kernel
theorem dX11_breaksAt_23 : decode cX11_breaksAt 23 = .ok (.aload_n 0, 1) := by decide +kernel
theorem dX11_breaksAt_24 : decode cX11_breaksAt 24 = .ok (.getfield 24, 3) := by decide +kernel
theorem dX11_breaksAt_27 : decode cX11_breaksAt 27 = .ok (.iload_n 2, 1) := by decide +kernel
theorem dX11_breaksAt_28 : decode cX11_breaksAt 28 = .ok (.iaload, 1) := by decide +kernel
theorem dX11_breaksAt_29 : decode cX11_breaksAt 29 = .ok (.aload_n 0, 1) := by decide +kernel
theorem dX11_breaksAt_30 : decode cX11_breaksAt 30 = .ok (.getfield 31, 3) := by decide +kernel
theorem dX11_breaksAt_33 : decode cX11_breaksAt 33 = .ok (.iload_n 2, 1) := by decide +kernel
theorem dX11_breaksAt_34 : decode cX11_breaksAt 34 = .ok (.iaload, 1) := by decide +kernel
theorem dX11_breaksAt_35 : decode cX11_breaksAt 35 = .ok (.if_icmp .eq 5, 3) := by decide +kernel
theorem dX11_breaksAt_38 : decode cX11_breaksAt 38 = .ok (.iload_n 2, 1) := by decide +kernel
theorem dX11_breaksAt_39 : decode cX11_breaksAt 39 = .ok (.ireturn, 1) := by decide +kernel
theorem dX11_breaksAt_40 : decode cX11_breaksAt 40 = .ok (.iinc 2 1, 3) := by decide +kernel
theorem dX11_breaksAt_43 : decode cX11_breaksAt 43 = .ok (.goto (-36), 3) := by decide +kernel
theorem dX11_breaksAt_46 : decode cX11_breaksAt 46 = .ok (.bipush (-4), 2) := by decide +kernel
theorem dX11_breaksAt_48 : decode cX11_breaksAt 48 = .ok (.ireturn, 1) := by decide +kernel
set_option maxRecDepth 20000 in
theorem ggX11_breaks_X11_isRegister : GoodIn wsX11_breaks wsX11_isRegister := goodIn_r _ [4, 5, 6, 7, 3, 8] (by decide +kernel) (by decide +kernel)
set_option maxRecDepth 20000 in
theorem gX11_breaks_X11_isRegister : GoodIn wsX11_breaks (va_wsS RX11 96 yX11_isRegister wsX11_isRegister) := goodIn_app (goodIn_of _ (by decide +kernel)) ggX11_breaks_X11_isRegister
set_option maxRecDepth 20000 in
theorem ggX11_breaks_X11_breaksAt : GoodIn wsX11_breaks wsX11_breaksAt := goodIn_r _ [12, 13, 14, 15, 16, 17, 18, 19, 3, 20, 21, 22, 23, 24, 25, 26, 27, 28, 29, 30, 31, 32, 33, 34, 35, 36, 6, 7, 8, 37, 38, 39, 40, 41, 42, 43, 44, 45, 46, 47, 48, 49, 50, 51, 52, 53, 54, 55, 56, 57, 58, 59, 60, 61, 62, 63, 64, 65, 66] (by decide +kernel) (by decide +kernel)
set_option maxRecDepth 20000 in
theorem gX11_breaks_X11_breaksAt : GoodIn wsX11_breaks (wsV RX11 136 RX11 yX11_breaksAt wsX11_breaksAt) := goodIn_app (goodIn_of _ (by decide +kernel)) ggX11_breaks_X11_breaksAt
theorem dX11_breaks_0 : decode cX11_breaks 0 = .ok (.iload_n 1, 1) := by decide +kernel
theorem dX11_breaks_1 : decode cX11_breaks 1 = .ok (.invokestatic 96, 3) := by decide +kernel
theorem dX11_breaks_4 : decode cX11_breaks 4 = .ok (.ifCond .eq 11, 3) := by decide +kernel
theorem dX11_breaks_7 : decode cX11_breaks 7 = .ok (.aload_n 0, 1) := by decide +kernel
theorem dX11_breaks_8 : decode cX11_breaks 8 = .ok (.iload_n 1, 1) := by decide +kernel
theorem dX11_breaks_9 : decode cX11_breaks 9 = .ok (.invokevirtual 136, 3) := by decide +kernel
theorem dX11_breaks_12 : decode cX11_breaks 12 = .ok (.goto 4, 3) := by decide +kernel
theorem dX11_breaks_15 : decode cX11_breaks 15 = .ok (.iconst (-1), 1) := by decide +kernel
theorem dX11_breaks_16 : decode cX11_breaks 16 = .ok (.ireturn, 1) := by decide +kernel
set_option maxRecDepth 20000 in
theorem ggX11_may_X11_breaksAt : GoodIn wsX11_may wsX11_breaksAt := goodIn_r _ [5, 6, 7, 8, 9, 10, 11, 12, 4, 13, 14, 15, 16, 17, 18, 19, 20, 21, 22, 23, 24, 25, 26, 27, 28, 29, 30, 31, 32, 33, 34, 35, 36, 37, 38, 39, 40, 41, 42, 43, 44, 45, 46, 47, 48, 49, 50, 51, 52, 53, 54, 55, 56, 57, 58, 59, 60, 61, 62] (by decide +kernel) (by decide +kernel)
set_option maxRecDepth 20000 in
theorem gX11_may_X11_breaksAt : GoodIn wsX11_may (wsV RX11 136 RX11 yX11_breaksAt wsX11_breaksAt) := goodIn_app (goodIn_of _ (by decide +kernel)) ggX11_may_X11_breaksAt
theorem dX11_may_0 : decode cX11_may 0 = .ok (.iconst 0, 1) := by decide +kernel
theorem dX11_may_1 : decode cX11_may 1 = .ok (.istore_n 1, 1) := by decide +kernel
theorem dX11_may_2 : decode cX11_may 2 = .ok (.iconst 0, 1) := by decide +kernel
theorem dX11_may_3 : decode cX11_may 3 = .ok (.istore_n 2, 1) := by decide +kernel
theorem dX11_may_4 : decode cX11_may 4 = .ok (.iload_n 2, 1) := by decide +kernel
theorem dX11_may_5 : decode cX11_may 5 = .ok (.iconst 4, 1) := by decide +kernel
theorem dX11_may_6 : decode cX11_may 6 = .ok (.if_icmp .ge 29, 3) := by decide +kernel
theorem dX11_may_9 : decode cX11_may 9 = .ok (.iload_n 1, 1) := by decide +kernel
theorem dX11_may_10 : decode cX11_may 10 = .ok (.aload_n 0, 1) := by decide +kernel
theorem dX11_may_11 : decode cX11_may 11 = .ok (.iload_n 2, 1) := by decide +kernel
theorem dX11_may_12 : decode cX11_may 12 = .ok (.invokevirtual 136, 3) := by decide +kernel
theorem dX11_may_15 : decode cX11_may 15 = .ok (.bipush (-4), 2) := by decide +kernel
theorem dX11_may_17 : decode cX11_may 17 = .ok (.if_icmp .ne 9, 3) := by decide +kernel
theorem dX11_may_20 : decode cX11_may 20 = .ok (.iconst 1, 1) := by decide +kernel
theorem dX11_may_21 : decode cX11_may 21 = .ok (.iload_n 2, 1) := by decide +kernel
theorem dX11_may_22 : decode cX11_may 22 = .ok (.ishl, 1) := by decide +kernel
theorem dX11_may_23 : decode cX11_may 23 = .ok (.goto 4, 3) := by decide +kernel
theorem dX11_may_26 : decode cX11_may 26 = .ok (.iconst 0, 1) := by decide +kernel
theorem dX11_may_27 : decode cX11_may 27 = .ok (.ior, 1) := by decide +kernel
theorem dX11_may_28 : decode cX11_may 28 = .ok (.istore_n 1, 1) := by decide +kernel
theorem dX11_may_29 : decode cX11_may 29 = .ok (.iinc 2 1, 3) := by decide +kernel
theorem dX11_may_32 : decode cX11_may 32 = .ok (.goto (-28), 3) := by decide +kernel
theorem dX11_may_35 : decode cX11_may 35 = .ok (.iload_n 1, 1) := by decide +kernel
theorem dX11_may_36 : decode cX11_may 36 = .ok (.ireturn, 1) := by decide +kernel
set_option maxRecDepth 20000 in
theorem ggX11_figure_X11_in : GoodIn wsX11_figure wsX11_in := goodIn_r _ [7] (by decide +kernel) (by decide +kernel)
set_option maxRecDepth 20000 in
theorem gX11_figure_X11_in : GoodIn wsX11_figure (va_wsS RX11 58 yX11_in wsX11_in) := goodIn_app (goodIn_of _ (by decide +kernel)) ggX11_figure_X11_in
theorem dX11_figure_0 : decode cX11_figure 0 = .ok (.iload_n 1, 1) := by decide +kernel
theorem dX11_figure_1 : decode cX11_figure 1 = .ok (.i2l, 1) := by decide +kernel
theorem dX11_figure_2 : decode cX11_figure 2 = .ok (.lconst 1, 1) := by decide +kernel
theorem dX11_figure_3 : decode cX11_figure 3 = .ok (.ldc2_w 139, 3) := by decide +kernel
theorem dX11_figure_6 : decode cX11_figure 6 = .ok (.invokestatic 58, 3) := by decide +kernel
theorem dX11_figure_9 : decode cX11_figure 9 = .ok (.ifCond .ne 5, 3) := by decide +kernel
theorem dX11_figure_12 : decode cX11_figure 12 = .ok (.iconst (-1), 1) := by decide +kernel
theorem dX11_figure_13 : decode cX11_figure 13 = .ok (.ireturn, 1) := by decide +kernel
theorem dX11_figure_14 : decode cX11_figure 14 = .ok (.aload_n 0, 1) := by decide +kernel
theorem dX11_figure_15 : decode cX11_figure 15 = .ok (.getfield 141, 3) := by decide +kernel
theorem dX11_figure_18 : decode cX11_figure 18 = .ok (.bipush 40, 2) := by decide +kernel
theorem dX11_figure_20 : decode cX11_figure 20 = .ok (.if_icmp .ne 6, 3) := by decide +kernel
theorem dX11_figure_23 : decode cX11_figure 23 = .ok (.bipush (-3), 2) := by decide +kernel
theorem dX11_figure_25 : decode cX11_figure 25 = .ok (.ireturn, 1) := by decide +kernel
theorem dX11_figure_26 : decode cX11_figure 26 = .ok (.aload_n 0, 1) := by decide +kernel
theorem dX11_figure_27 : decode cX11_figure 27 = .ok (.getfield 34, 3) := by decide +kernel
theorem dX11_figure_30 : decode cX11_figure 30 = .ok (.aload_n 0, 1) := by decide +kernel
theorem dX11_figure_31 : decode cX11_figure 31 = .ok (.getfield 141, 3) := by decide +kernel
theorem dX11_figure_34 : decode cX11_figure 34 = .ok (.iload_n 1, 1) := by decide +kernel
theorem dX11_figure_35 : decode cX11_figure 35 = .ok (.iastore, 1) := by decide +kernel
theorem dX11_figure_36 : decode cX11_figure 36 = .ok (.aload_n 0, 1) := by decide +kernel
theorem dX11_figure_37 : decode cX11_figure 37 = .ok (.dup, 1) := by decide +kernel
theorem dX11_figure_38 : decode cX11_figure 38 = .ok (.getfield 141, 3) := by decide +kernel
theorem dX11_figure_41 : decode cX11_figure 41 = .ok (.iconst 1, 1) := by decide +kernel
theorem dX11_figure_42 : decode cX11_figure 42 = .ok (.iadd, 1) := by decide +kernel
theorem dX11_figure_43 : decode cX11_figure 43 = .ok (.putfield 141, 3) := by decide +kernel
theorem dX11_figure_46 : decode cX11_figure 46 = .ok (.aload_n 0, 1) := by decide +kernel
theorem dX11_figure_47 : decode cX11_figure 47 = .ok (.getfield 141, 3) := by decide +kernel
theorem dX11_figure_50 : decode cX11_figure 50 = .ok (.ireturn, 1) := by decide +kernel
theorem dX11_noFigures_0 : decode cX11_noFigures 0 = .ok (.aload_n 0, 1) := by decide +kernel
theorem dX11_noFigures_1 : decode cX11_noFigures 1 = .ok (.getfield 141, 3) := by decide +kernel
theorem dX11_noFigures_4 : decode cX11_noFigures 4 = .ok (.istore_n 1, 1) := by decide +kernel
theorem dX11_noFigures_5 : decode cX11_noFigures 5 = .ok (.aload_n 0, 1) := by decide +kernel
theorem dX11_noFigures_6 : decode cX11_noFigures 6 = .ok (.iconst 0, 1) := by decide +kernel
theorem dX11_noFigures_7 : decode cX11_noFigures 7 = .ok (.putfield 141, 3) := by decide +kernel
theorem dX11_noFigures_10 : decode cX11_noFigures 10 = .ok (.iload_n 1, 1) := by decide +kernel
theorem dX11_noFigures_11 : decode cX11_noFigures 11 = .ok (.ireturn, 1) := by decide +kernel
theorem dX11_begins_0 : decode cX11_begins 0 = .ok (.aload_n 0, 1) := by decide +kernel
theorem dX11_begins_1 : decode cX11_begins 1 = .ok (.aload_n 0, 1) := by decide +kernel
theorem dX11_begins_2 : decode cX11_begins 2 = .ok (.getfield 141, 3) := by decide +kernel
theorem dX11_begins_5 : decode cX11_begins 5 = .ok (.putfield 144, 3) := by decide +kernel
theorem dX11_begins_8 : decode cX11_begins 8 = .ok (.iconst 0, 1) := by decide +kernel
theorem dX11_begins_9 : decode cX11_begins 9 = .ok (.istore_n 1, 1) := by decide +kernel
theorem dX11_begins_10 : decode cX11_begins 10 = .ok (.iload_n 1, 1) := by decide +kernel
theorem dX11_begins_11 : decode cX11_begins 11 = .ok (.aload_n 0, 1) := by decide +kernel
theorem dX11_begins_12 : decode cX11_begins 12 = .ok (.getfield 141, 3) := by decide +kernel
theorem dX11_begins_15 : decode cX11_begins 15 = .ok (.if_icmp .ge 21, 3) := by decide +kernel
theorem dX11_begins_18 : decode cX11_begins 18 = .ok (.aload_n 0, 1) := by decide +kernel
theorem dX11_begins_19 : decode cX11_begins 19 = .ok (.getfield 37, 3) := by decide +kernel
theorem dX11_begins_22 : decode cX11_begins 22 = .ok (.iload_n 1, 1) := by decide +kernel
theorem dX11_begins_23 : decode cX11_begins 23 = .ok (.aload_n 0, 1) := by decide +kernel
theorem dX11_begins_24 : decode cX11_begins 24 = .ok (.getfield 34, 3) := by decide +kernel
theorem dX11_begins_27 : decode cX11_begins 27 = .ok (.iload_n 1, 1) := by decide +kernel
theorem dX11_begins_28 : decode cX11_begins 28 = .ok (.iaload, 1) := by decide +kernel
theorem dX11_begins_29 : decode cX11_begins 29 = .ok (.iastore, 1) := by decide +kernel
theorem dX11_begins_30 : decode cX11_begins 30 = .ok (.iinc 1 1, 3) := by decide +kernel
theorem dX11_begins_33 : decode cX11_begins 33 = .ok (.goto (-23), 3) := by decide +kernel
theorem dX11_begins_36 : decode cX11_begins 36 = .ok (.return_, 1) := by decide +kernel
theorem dX11_tells_0 : decode cX11_tells 0 = .ok (.iconst 0, 1) := by decide +kernel
theorem dX11_tells_1 : decode cX11_tells 1 = .ok (.istore_n 2, 1) := by decide +kernel
theorem dX11_tells_2 : decode cX11_tells 2 = .ok (.iload_n 1, 1) := by decide +kernel
theorem dX11_tells_3 : decode cX11_tells 3 = .ok (.ifCond .eq 96, 3) := by decide +kernel
theorem dX11_tells_6 : decode cX11_tells 6 = .ok (.iconst 1, 1) := by decide +kernel
theorem dX11_tells_7 : decode cX11_tells 7 = .ok (.istore_n 3, 1) := by decide +kernel
theorem dX11_tells_8 : decode cX11_tells 8 = .ok (.iload_n 3, 1) := by decide +kernel
theorem dX11_tells_9 : decode cX11_tells 9 = .ok (.bipush 10, 2) := by decide +kernel
theorem dX11_tells_11 : decode cX11_tells 11 = .ok (.if_icmp .ge 85, 3) := by decide +kernel
theorem dX11_tells_14 : decode cX11_tells 14 = .ok (.iconst 0, 1) := by decide +kernel
theorem dX11_tells_15 : decode cX11_tells 15 = .ok (.istore 4, 2) := by decide +kernel
theorem dX11_tells_17 : decode cX11_tells 17 = .ok (.iconst 0, 1) := by decide +kernel
theorem dX11_tells_18 : decode cX11_tells 18 = .ok (.istore 5, 2) := by decide +kernel
theorem dX11_tells_20 : decode cX11_tells 20 = .ok (.iload 5, 2) := by decide +kernel
theorem dX11_tells_22 : decode cX11_tells 22 = .ok (.aload_n 0, 1) := by decide +kernel
theorem dX11_tells_23 : decode cX11_tells 23 = .ok (.getfield 144, 3) := by decide +kernel
theorem dX11_tells_26 : decode cX11_tells 26 = .ok (.if_icmp .ge 30, 3) := by decide +kernel
theorem dX11_tells_29 : decode cX11_tells 29 = .ok (.iload 4, 2) := by decide +kernel
theorem dX11_tells_31 : decode cX11_tells 31 = .ok (.aload_n 0, 1) := by decide +kernel
theorem dX11_tells_32 : decode cX11_tells 32 = .ok (.getfield 37, 3) := by decide +kernel
theorem dX11_tells_35 : decode cX11_tells 35 = .ok (.iload 5, 2) := by decide +kernel
theorem dX11_tells_37 : decode cX11_tells 37 = .ok (.iaload, 1) := by decide +kernel
theorem dX11_tells_38 : decode cX11_tells 38 = .ok (.iload_n 3, 1) := by decide +kernel
theorem dX11_tells_39 : decode cX11_tells 39 = .ok (.if_icmp .ne 7, 3) := by decide +kernel
theorem dX11_tells_42 : decode cX11_tells 42 = .ok (.iconst 1, 1) := by decide +kernel
theorem dX11_tells_43 : decode cX11_tells 43 = .ok (.goto 4, 3) := by decide +kernel
theorem dX11_tells_46 : decode cX11_tells 46 = .ok (.iconst 0, 1) := by decide +kernel
theorem dX11_tells_47 : decode cX11_tells 47 = .ok (.iadd, 1) := by decide +kernel
theorem dX11_tells_48 : decode cX11_tells 48 = .ok (.istore 4, 2) := by decide +kernel
theorem dX11_tells_50 : decode cX11_tells 50 = .ok (.iinc 5 1, 3) := by decide +kernel
theorem dX11_tells_53 : decode cX11_tells 53 = .ok (.goto (-33), 3) := by decide +kernel
theorem dX11_tells_56 : decode cX11_tells 56 = .ok (.iload 4, 2) := by decide +kernel
theorem dX11_tells_58 : decode cX11_tells 58 = .ok (.bipush 9, 2) := by decide +kernel
theorem dX11_tells_60 : decode cX11_tells 60 = .ok (.if_icmp .le 5, 3) := by decide +kernel
theorem dX11_tells_63 : decode cX11_tells 63 = .ok (.iconst 0, 1) := by decide +kernel
theorem dX11_tells_64 : decode cX11_tells 64 = .ok (.ireturn, 1) := by decide +kernel
theorem dX11_tells_65 : decode cX11_tells 65 = .ok (.iload 4, 2) := by decide +kernel
theorem dX11_tells_67 : decode cX11_tells 67 = .ok (.ifCond .le 23, 3) := by decide +kernel
theorem dX11_tells_70 : decode cX11_tells 70 = .ok (.aload_n 0, 1) := by decide +kernel
theorem dX11_tells_71 : decode cX11_tells 71 = .ok (.getfield 40, 3) := by decide +kernel
theorem dX11_tells_74 : decode cX11_tells 74 = .ok (.iload_n 2, 1) := by decide +kernel
theorem dX11_tells_75 : decode cX11_tells 75 = .ok (.iload 4, 2) := by decide +kernel
theorem dX11_tells_77 : decode cX11_tells 77 = .ok (.iastore, 1) := by decide +kernel
theorem dX11_tells_78 : decode cX11_tells 78 = .ok (.aload_n 0, 1) := by decide +kernel
theorem dX11_tells_79 : decode cX11_tells 79 = .ok (.getfield 40, 3) := by decide +kernel
theorem dX11_tells_82 : decode cX11_tells 82 = .ok (.iload_n 2, 1) := by decide +kernel
theorem dX11_tells_83 : decode cX11_tells 83 = .ok (.iconst 1, 1) := by decide +kernel
theorem dX11_tells_84 : decode cX11_tells 84 = .ok (.iadd, 1) := by decide +kernel
theorem dX11_tells_85 : decode cX11_tells 85 = .ok (.iload_n 3, 1) := by decide +kernel
theorem dX11_tells_86 : decode cX11_tells 86 = .ok (.iastore, 1) := by decide +kernel
theorem dX11_tells_87 : decode cX11_tells 87 = .ok (.iinc 2 2, 3) := by decide +kernel
theorem dX11_tells_90 : decode cX11_tells 90 = .ok (.iinc 3 1, 3) := by decide +kernel
theorem dX11_tells_93 : decode cX11_tells 93 = .ok (.goto (-85), 3) := by decide +kernel
theorem dX11_tells_96 : decode cX11_tells 96 = .ok (.goto 100, 3) := by decide +kernel
theorem dX11_tells_99 : decode cX11_tells 99 = .ok (.iconst 0, 1) := by decide +kernel
theorem dX11_tells_100 : decode cX11_tells 100 = .ok (.istore_n 3, 1) := by decide +kernel
theorem dX11_tells_101 : decode cX11_tells 101 = .ok (.iload_n 3, 1) := by decide +kernel
theorem dX11_tells_102 : decode cX11_tells 102 = .ok (.aload_n 0, 1) := by decide +kernel
theorem dX11_tells_103 : decode cX11_tells 103 = .ok (.getfield 144, 3) := by decide +kernel
theorem dX11_tells_106 : decode cX11_tells 106 = .ok (.if_icmp .ge 90, 3) := by decide +kernel
theorem dX11_tells_109 : decode cX11_tells 109 = .ok (.iload_n 3, 1) := by decide +kernel
theorem dX11_tells_110 : decode cX11_tells 110 = .ok (.istore 4, 2) := by decide +kernel
theorem dX11_tells_112 : decode cX11_tells 112 = .ok (.iload 4, 2) := by decide +kernel
theorem dX11_tells_114 : decode cX11_tells 114 = .ok (.aload_n 0, 1) := by decide +kernel
theorem dX11_tells_115 : decode cX11_tells 115 = .ok (.getfield 144, 3) := by decide +kernel
theorem dX11_tells_118 : decode cX11_tells 118 = .ok (.if_icmp .ge 25, 3) := by decide +kernel
theorem dX11_tells_121 : decode cX11_tells 121 = .ok (.aload_n 0, 1) := by decide +kernel
theorem dX11_tells_122 : decode cX11_tells 122 = .ok (.getfield 37, 3) := by decide +kernel
theorem dX11_tells_125 : decode cX11_tells 125 = .ok (.iload 4, 2) := by decide +kernel
theorem dX11_tells_127 : decode cX11_tells 127 = .ok (.iaload, 1) := by decide +kernel
theorem dX11_tells_128 : decode cX11_tells 128 = .ok (.aload_n 0, 1) := by decide +kernel
theorem dX11_tells_129 : decode cX11_tells 129 = .ok (.getfield 37, 3) := by decide +kernel
theorem dX11_tells_132 : decode cX11_tells 132 = .ok (.iload_n 3, 1) := by decide +kernel
theorem dX11_tells_133 : decode cX11_tells 133 = .ok (.iaload, 1) := by decide +kernel
theorem dX11_tells_134 : decode cX11_tells 134 = .ok (.if_icmp .ne 9, 3) := by decide +kernel
theorem dX11_tells_137 : decode cX11_tells 137 = .ok (.iinc 4 1, 3) := by decide +kernel
theorem dX11_tells_140 : decode cX11_tells 140 = .ok (.goto (-28), 3) := by decide +kernel
theorem dX11_tells_143 : decode cX11_tells 143 = .ok (.iload 4, 2) := by decide +kernel
theorem dX11_tells_145 : decode cX11_tells 145 = .ok (.iload_n 3, 1) := by decide +kernel
theorem dX11_tells_146 : decode cX11_tells 146 = .ok (.isub, 1) := by decide +kernel
theorem dX11_tells_147 : decode cX11_tells 147 = .ok (.bipush 9, 2) := by decide +kernel
theorem dX11_tells_149 : decode cX11_tells 149 = .ok (.if_icmp .gt 12, 3) := by decide +kernel
theorem dX11_tells_152 : decode cX11_tells 152 = .ok (.iload_n 2, 1) := by decide +kernel
theorem dX11_tells_153 : decode cX11_tells 153 = .ok (.iconst 2, 1) := by decide +kernel
theorem dX11_tells_154 : decode cX11_tells 154 = .ok (.iadd, 1) := by decide +kernel
theorem dX11_tells_155 : decode cX11_tells 155 = .ok (.sipush 5000, 3) := by decide +kernel
theorem dX11_tells_158 : decode cX11_tells 158 = .ok (.if_icmp .le 5, 3) := by decide +kernel
theorem dX11_tells_161 : decode cX11_tells 161 = .ok (.iconst 0, 1) := by decide +kernel
theorem dX11_tells_162 : decode cX11_tells 162 = .ok (.ireturn, 1) := by decide +kernel
theorem dX11_tells_163 : decode cX11_tells 163 = .ok (.aload_n 0, 1) := by decide +kernel
theorem dX11_tells_164 : decode cX11_tells 164 = .ok (.getfield 40, 3) := by decide +kernel
theorem dX11_tells_167 : decode cX11_tells 167 = .ok (.iload_n 2, 1) := by decide +kernel
theorem dX11_tells_168 : decode cX11_tells 168 = .ok (.iload 4, 2) := by decide +kernel
theorem dX11_tells_170 : decode cX11_tells 170 = .ok (.iload_n 3, 1) := by decide +kernel
theorem dX11_tells_171 : decode cX11_tells 171 = .ok (.isub, 1) := by decide +kernel
theorem dX11_tells_172 : decode cX11_tells 172 = .ok (.iastore, 1) := by decide +kernel
theorem dX11_tells_173 : decode cX11_tells 173 = .ok (.aload_n 0, 1) := by decide +kernel
theorem dX11_tells_174 : decode cX11_tells 174 = .ok (.getfield 40, 3) := by decide +kernel
theorem dX11_tells_177 : decode cX11_tells 177 = .ok (.iload_n 2, 1) := by decide +kernel
theorem dX11_tells_178 : decode cX11_tells 178 = .ok (.iconst 1, 1) := by decide +kernel
theorem dX11_tells_179 : decode cX11_tells 179 = .ok (.iadd, 1) := by decide +kernel
theorem dX11_tells_180 : decode cX11_tells 180 = .ok (.aload_n 0, 1) := by decide +kernel
theorem dX11_tells_181 : decode cX11_tells 181 = .ok (.getfield 37, 3) := by decide +kernel
theorem dX11_tells_184 : decode cX11_tells 184 = .ok (.iload_n 3, 1) := by decide +kernel
theorem dX11_tells_185 : decode cX11_tells 185 = .ok (.iaload, 1) := by decide +kernel
theorem dX11_tells_186 : decode cX11_tells 186 = .ok (.iastore, 1) := by decide +kernel
theorem dX11_tells_187 : decode cX11_tells 187 = .ok (.iinc 2 2, 3) := by decide +kernel
theorem dX11_tells_190 : decode cX11_tells 190 = .ok (.iload 4, 2) := by decide +kernel
theorem dX11_tells_192 : decode cX11_tells 192 = .ok (.istore_n 3, 1) := by decide +kernel
theorem dX11_tells_193 : decode cX11_tells 193 = .ok (.goto (-92), 3) := by decide +kernel
theorem dX11_tells_196 : decode cX11_tells 196 = .ok (.aload_n 0, 1) := by decide +kernel
theorem dX11_tells_197 : decode cX11_tells 197 = .ok (.iload_n 2, 1) := by decide +kernel
theorem dX11_tells_198 : decode cX11_tells 198 = .ok (.putfield 144, 3) := by decide +kernel
theorem dX11_tells_201 : decode cX11_tells 201 = .ok (.iconst 0, 1) := by decide +kernel
theorem dX11_tells_202 : decode cX11_tells 202 = .ok (.istore_n 3, 1) := by decide +kernel
theorem dX11_tells_203 : decode cX11_tells 203 = .ok (.iload_n 3, 1) := by decide +kernel
theorem dX11_tells_204 : decode cX11_tells 204 = .ok (.iload_n 2, 1) := by decide +kernel
theorem dX11_tells_205 : decode cX11_tells 205 = .ok (.if_icmp .ge 21, 3) := by decide +kernel
theorem dX11_tells_208 : decode cX11_tells 208 = .ok (.aload_n 0, 1) := by decide +kernel
theorem dX11_tells_209 : decode cX11_tells 209 = .ok (.getfield 37, 3) := by decide +kernel
theorem dX11_tells_212 : decode cX11_tells 212 = .ok (.iload_n 3, 1) := by decide +kernel
theorem dX11_tells_213 : decode cX11_tells 213 = .ok (.aload_n 0, 1) := by decide +kernel
theorem dX11_tells_214 : decode cX11_tells 214 = .ok (.getfield 40, 3) := by decide +kernel
theorem dX11_tells_217 : decode cX11_tells 217 = .ok (.iload_n 3, 1) := by decide +kernel
theorem dX11_tells_218 : decode cX11_tells 218 = .ok (.iaload, 1) := by decide +kernel
theorem dX11_tells_219 : decode cX11_tells 219 = .ok (.iastore, 1) := by decide +kernel
theorem dX11_tells_220 : decode cX11_tells 220 = .ok (.iinc 3 1, 3) := by decide +kernel
theorem dX11_tells_223 : decode cX11_tells 223 = .ok (.goto (-20), 3) := by decide +kernel
theorem dX11_tells_226 : decode cX11_tells 226 = .ok (.iconst 1, 1) := by decide +kernel
theorem dX11_tells_227 : decode cX11_tells 227 = .ok (.ireturn, 1) := by decide +kernel
set_option maxRecDepth 20000 in
theorem ggX11_said_X11_in : GoodIn wsX11_said wsX11_in := goodIn_r _ [7] (by decide +kernel) (by decide +kernel)
set_option maxRecDepth 20000 in
theorem gX11_said_X11_in : GoodIn wsX11_said (va_wsS RX11 58 yX11_in wsX11_in) := goodIn_app (goodIn_of _ (by decide +kernel)) ggX11_said_X11_in
set_option maxRecDepth 20000 in
theorem ggX11_said_X11_begins : GoodIn wsX11_said wsX11_begins := goodIn_r _ [11, 12, 2, 3, 13, 19, 20, 21, 22, 23, 24, 25, 26, 27, 28, 29, 30, 31, 32, 33, 34, 35, 36, 37, 38, 39] (by decide +kernel) (by decide +kernel)
set_option maxRecDepth 20000 in
theorem gX11_said_X11_begins : GoodIn wsX11_said (wsV RX11 149 RX11 yX11_begins wsX11_begins) := goodIn_app (goodIn_of _ (by decide +kernel)) ggX11_said_X11_begins
set_option maxRecDepth 20000 in
theorem ggX11_said_X11_tells : GoodIn wsX11_said wsX11_tells := goodIn_r _ [17, 2, 3, 18, 19, 20, 21, 22, 23, 24, 25, 26, 27, 28, 29, 30, 31, 32, 33, 34, 35, 36, 37, 38, 39] (by decide +kernel) (by decide +kernel)
set_option maxRecDepth 20000 in
theorem gX11_said_X11_tells : GoodIn wsX11_said (wsV RX11 152 RX11 yX11_tells wsX11_tells) := goodIn_app (goodIn_of _ (by decide +kernel)) ggX11_said_X11_tells
theorem dX11_said_0 : decode cX11_said 0 = .ok (.iload_n 2, 1) := by decide +kernel
theorem dX11_said_1 : decode cX11_said 1 = .ok (.i2l, 1) := by decide +kernel
theorem dX11_said_2 : decode cX11_said 2 = .ok (.lconst 0, 1) := by decide +kernel
theorem dX11_said_3 : decode cX11_said 3 = .ok (.ldc2_w 147, 3) := by decide +kernel
theorem dX11_said_6 : decode cX11_said 6 = .ok (.invokestatic 58, 3) := by decide +kernel
theorem dX11_said_9 : decode cX11_said 9 = .ok (.ifCond .eq 8, 3) := by decide +kernel
theorem dX11_said_12 : decode cX11_said 12 = .ok (.iload_n 3, 1) := by decide +kernel
theorem dX11_said_13 : decode cX11_said 13 = .ok (.iconst (-1), 1) := by decide +kernel
theorem dX11_said_14 : decode cX11_said 14 = .ok (.if_icmp .ge 5, 3) := by decide +kernel
theorem dX11_said_17 : decode cX11_said 17 = .ok (.iconst (-1), 1) := by decide +kernel
theorem dX11_said_18 : decode cX11_said 18 = .ok (.ireturn, 1) := by decide +kernel
theorem dX11_said_19 : decode cX11_said 19 = .ok (.aload_n 0, 1) := by decide +kernel
theorem dX11_said_20 : decode cX11_said 20 = .ok (.invokevirtual 149, 3) := by decide +kernel
theorem dX11_said_23 : decode cX11_said 23 = .ok (.iconst 0, 1) := by decide +kernel
theorem dX11_said_24 : decode cX11_said 24 = .ok (.istore 4, 2) := by decide +kernel
theorem dX11_said_26 : decode cX11_said 26 = .ok (.iload 4, 2) := by decide +kernel
theorem dX11_said_28 : decode cX11_said 28 = .ok (.iload_n 2, 1) := by decide +kernel
theorem dX11_said_29 : decode cX11_said 29 = .ok (.if_icmp .ge 20, 3) := by decide +kernel
theorem dX11_said_32 : decode cX11_said 32 = .ok (.aload_n 0, 1) := by decide +kernel
theorem dX11_said_33 : decode cX11_said 33 = .ok (.iload_n 1, 1) := by decide +kernel
theorem dX11_said_34 : decode cX11_said 34 = .ok (.invokevirtual 152, 3) := by decide +kernel
theorem dX11_said_37 : decode cX11_said 37 = .ok (.ifCond .ne 6, 3) := by decide +kernel
theorem dX11_said_40 : decode cX11_said 40 = .ok (.bipush (-2), 2) := by decide +kernel
theorem dX11_said_42 : decode cX11_said 42 = .ok (.ireturn, 1) := by decide +kernel
theorem dX11_said_43 : decode cX11_said 43 = .ok (.iinc 4 1, 3) := by decide +kernel
theorem dX11_said_46 : decode cX11_said 46 = .ok (.goto (-20), 3) := by decide +kernel
theorem dX11_said_49 : decode cX11_said 49 = .ok (.iload_n 3, 1) := by decide +kernel
theorem dX11_said_50 : decode cX11_said 50 = .ok (.ifCond .ge 10, 3) := by decide +kernel
theorem dX11_said_53 : decode cX11_said 53 = .ok (.aload_n 0, 1) := by decide +kernel
theorem dX11_said_54 : decode cX11_said 54 = .ok (.getfield 144, 3) := by decide +kernel
theorem dX11_said_57 : decode cX11_said 57 = .ok (.goto 22, 3) := by decide +kernel
theorem dX11_said_60 : decode cX11_said 60 = .ok (.iload_n 3, 1) := by decide +kernel
theorem dX11_said_61 : decode cX11_said 61 = .ok (.aload_n 0, 1) := by decide +kernel
theorem dX11_said_62 : decode cX11_said 62 = .ok (.getfield 144, 3) := by decide +kernel
theorem dX11_said_65 : decode cX11_said 65 = .ok (.if_icmp .ge 12, 3) := by decide +kernel
theorem dX11_said_68 : decode cX11_said 68 = .ok (.aload_n 0, 1) := by decide +kernel
theorem dX11_said_69 : decode cX11_said 69 = .ok (.getfield 37, 3) := by decide +kernel
theorem dX11_said_72 : decode cX11_said 72 = .ok (.iload_n 3, 1) := by decide +kernel
theorem dX11_said_73 : decode cX11_said 73 = .ok (.iaload, 1) := by decide +kernel
theorem dX11_said_74 : decode cX11_said 74 = .ok (.goto 5, 3) := by decide +kernel
theorem dX11_said_77 : decode cX11_said 77 = .ok (.bipush (-4), 2) := by decide +kernel
theorem dX11_said_79 : decode cX11_said 79 = .ok (.ireturn, 1) := by decide +kernel
theorem dX11_untells_0 : decode cX11_untells 0 = .ok (.iconst 0, 1) := by decide +kernel
theorem dX11_untells_1 : decode cX11_untells 1 = .ok (.istore_n 1, 1) := by decide +kernel
theorem dX11_untells_2 : decode cX11_untells 2 = .ok (.aload_n 0, 1) := by decide +kernel
theorem dX11_untells_3 : decode cX11_untells 3 = .ok (.getfield 144, 3) := by decide +kernel
theorem dX11_untells_6 : decode cX11_untells 6 = .ok (.iconst 2, 1) := by decide +kernel
theorem dX11_untells_7 : decode cX11_untells 7 = .ok (.irem, 1) := by decide +kernel
theorem dX11_untells_8 : decode cX11_untells 8 = .ok (.iconst 1, 1) := by decide +kernel
theorem dX11_untells_9 : decode cX11_untells 9 = .ok (.if_icmp .ne 5, 3) := by decide +kernel
theorem dX11_untells_12 : decode cX11_untells 12 = .ok (.iconst 0, 1) := by decide +kernel
theorem dX11_untells_13 : decode cX11_untells 13 = .ok (.ireturn, 1) := by decide +kernel
theorem dX11_untells_14 : decode cX11_untells 14 = .ok (.iconst 0, 1) := by decide +kernel
theorem dX11_untells_15 : decode cX11_untells 15 = .ok (.istore_n 2, 1) := by decide +kernel
theorem dX11_untells_16 : decode cX11_untells 16 = .ok (.iload_n 2, 1) := by decide +kernel
theorem dX11_untells_17 : decode cX11_untells 17 = .ok (.aload_n 0, 1) := by decide +kernel
theorem dX11_untells_18 : decode cX11_untells 18 = .ok (.getfield 144, 3) := by decide +kernel
theorem dX11_untells_21 : decode cX11_untells 21 = .ok (.if_icmp .ge 43, 3) := by decide +kernel
theorem dX11_untells_24 : decode cX11_untells 24 = .ok (.iload_n 2, 1) := by decide +kernel
theorem dX11_untells_25 : decode cX11_untells 25 = .ok (.ifCond .le 24, 3) := by decide +kernel
theorem dX11_untells_28 : decode cX11_untells 28 = .ok (.aload_n 0, 1) := by decide +kernel
theorem dX11_untells_29 : decode cX11_untells 29 = .ok (.getfield 37, 3) := by decide +kernel
theorem dX11_untells_32 : decode cX11_untells 32 = .ok (.iload_n 2, 1) := by decide +kernel
theorem dX11_untells_33 : decode cX11_untells 33 = .ok (.iconst 1, 1) := by decide +kernel
theorem dX11_untells_34 : decode cX11_untells 34 = .ok (.iadd, 1) := by decide +kernel
theorem dX11_untells_35 : decode cX11_untells 35 = .ok (.iaload, 1) := by decide +kernel
theorem dX11_untells_36 : decode cX11_untells 36 = .ok (.aload_n 0, 1) := by decide +kernel
theorem dX11_untells_37 : decode cX11_untells 37 = .ok (.getfield 37, 3) := by decide +kernel
theorem dX11_untells_40 : decode cX11_untells 40 = .ok (.iload_n 2, 1) := by decide +kernel
theorem dX11_untells_41 : decode cX11_untells 41 = .ok (.iconst 1, 1) := by decide +kernel
theorem dX11_untells_42 : decode cX11_untells 42 = .ok (.isub, 1) := by decide +kernel
theorem dX11_untells_43 : decode cX11_untells 43 = .ok (.iaload, 1) := by decide +kernel
theorem dX11_untells_44 : decode cX11_untells 44 = .ok (.if_icmp .ne 5, 3) := by decide +kernel
theorem dX11_untells_47 : decode cX11_untells 47 = .ok (.iconst 0, 1) := by decide +kernel
theorem dX11_untells_48 : decode cX11_untells 48 = .ok (.ireturn, 1) := by decide +kernel
theorem dX11_untells_49 : decode cX11_untells 49 = .ok (.iload_n 1, 1) := by decide +kernel
theorem dX11_untells_50 : decode cX11_untells 50 = .ok (.aload_n 0, 1) := by decide +kernel
theorem dX11_untells_51 : decode cX11_untells 51 = .ok (.getfield 37, 3) := by decide +kernel
theorem dX11_untells_54 : decode cX11_untells 54 = .ok (.iload_n 2, 1) := by decide +kernel
theorem dX11_untells_55 : decode cX11_untells 55 = .ok (.iaload, 1) := by decide +kernel
theorem dX11_untells_56 : decode cX11_untells 56 = .ok (.iadd, 1) := by decide +kernel
theorem dX11_untells_57 : decode cX11_untells 57 = .ok (.istore_n 1, 1) := by decide +kernel
theorem dX11_untells_58 : decode cX11_untells 58 = .ok (.iinc 2 2, 3) := by decide +kernel
theorem dX11_untells_61 : decode cX11_untells 61 = .ok (.goto (-45), 3) := by decide +kernel
theorem dX11_untells_64 : decode cX11_untells 64 = .ok (.iload_n 1, 1) := by decide +kernel
theorem dX11_untells_65 : decode cX11_untells 65 = .ok (.sipush 5000, 3) := by decide +kernel
theorem dX11_untells_68 : decode cX11_untells 68 = .ok (.if_icmp .le 5, 3) := by decide +kernel
theorem dX11_untells_71 : decode cX11_untells 71 = .ok (.iconst 0, 1) := by decide +kernel
theorem dX11_untells_72 : decode cX11_untells 72 = .ok (.ireturn, 1) := by decide +kernel
theorem dX11_untells_73 : decode cX11_untells 73 = .ok (.iconst 0, 1) := by decide +kernel
theorem dX11_untells_74 : decode cX11_untells 74 = .ok (.istore_n 2, 1) := by decide +kernel
theorem dX11_untells_75 : decode cX11_untells 75 = .ok (.iconst 0, 1) := by decide +kernel
theorem dX11_untells_76 : decode cX11_untells 76 = .ok (.istore_n 3, 1) := by decide +kernel
theorem dX11_untells_77 : decode cX11_untells 77 = .ok (.iload_n 3, 1) := by decide +kernel
theorem dX11_untells_78 : decode cX11_untells 78 = .ok (.aload_n 0, 1) := by decide +kernel
theorem dX11_untells_79 : decode cX11_untells 79 = .ok (.getfield 144, 3) := by decide +kernel
theorem dX11_untells_82 : decode cX11_untells 82 = .ok (.if_icmp .ge 46, 3) := by decide +kernel
theorem dX11_untells_85 : decode cX11_untells 85 = .ok (.iconst 0, 1) := by decide +kernel
theorem dX11_untells_86 : decode cX11_untells 86 = .ok (.istore 4, 2) := by decide +kernel
theorem dX11_untells_88 : decode cX11_untells 88 = .ok (.iload 4, 2) := by decide +kernel
theorem dX11_untells_90 : decode cX11_untells 90 = .ok (.aload_n 0, 1) := by decide +kernel
theorem dX11_untells_91 : decode cX11_untells 91 = .ok (.getfield 37, 3) := by decide +kernel
theorem dX11_untells_94 : decode cX11_untells 94 = .ok (.iload_n 3, 1) := by decide +kernel
theorem dX11_untells_95 : decode cX11_untells 95 = .ok (.iaload, 1) := by decide +kernel
theorem dX11_untells_96 : decode cX11_untells 96 = .ok (.if_icmp .ge 26, 3) := by decide +kernel
theorem dX11_untells_99 : decode cX11_untells 99 = .ok (.aload_n 0, 1) := by decide +kernel
theorem dX11_untells_100 : decode cX11_untells 100 = .ok (.getfield 40, 3) := by decide +kernel
theorem dX11_untells_103 : decode cX11_untells 103 = .ok (.iload_n 2, 1) := by decide +kernel
theorem dX11_untells_104 : decode cX11_untells 104 = .ok (.aload_n 0, 1) := by decide +kernel
theorem dX11_untells_105 : decode cX11_untells 105 = .ok (.getfield 37, 3) := by decide +kernel
theorem dX11_untells_108 : decode cX11_untells 108 = .ok (.iload_n 3, 1) := by decide +kernel
theorem dX11_untells_109 : decode cX11_untells 109 = .ok (.iconst 1, 1) := by decide +kernel
theorem dX11_untells_110 : decode cX11_untells 110 = .ok (.iadd, 1) := by decide +kernel
theorem dX11_untells_111 : decode cX11_untells 111 = .ok (.iaload, 1) := by decide +kernel
theorem dX11_untells_112 : decode cX11_untells 112 = .ok (.iastore, 1) := by decide +kernel
theorem dX11_untells_113 : decode cX11_untells 113 = .ok (.iinc 2 1, 3) := by decide +kernel
theorem dX11_untells_116 : decode cX11_untells 116 = .ok (.iinc 4 1, 3) := by decide +kernel
theorem dX11_untells_119 : decode cX11_untells 119 = .ok (.goto (-31), 3) := by decide +kernel
theorem dX11_untells_122 : decode cX11_untells 122 = .ok (.iinc 3 2, 3) := by decide +kernel
theorem dX11_untells_125 : decode cX11_untells 125 = .ok (.goto (-48), 3) := by decide +kernel
theorem dX11_untells_128 : decode cX11_untells 128 = .ok (.aload_n 0, 1) := by decide +kernel
theorem dX11_untells_129 : decode cX11_untells 129 = .ok (.iload_n 1, 1) := by decide +kernel
theorem dX11_untells_130 : decode cX11_untells 130 = .ok (.putfield 144, 3) := by decide +kernel
theorem dX11_untells_133 : decode cX11_untells 133 = .ok (.iconst 0, 1) := by decide +kernel
theorem dX11_untells_134 : decode cX11_untells 134 = .ok (.istore_n 3, 1) := by decide +kernel
theorem dX11_untells_135 : decode cX11_untells 135 = .ok (.iload_n 3, 1) := by decide +kernel
theorem dX11_untells_136 : decode cX11_untells 136 = .ok (.iload_n 1, 1) := by decide +kernel
theorem dX11_untells_137 : decode cX11_untells 137 = .ok (.if_icmp .ge 21, 3) := by decide +kernel
theorem dX11_untells_140 : decode cX11_untells 140 = .ok (.aload_n 0, 1) := by decide +kernel
theorem dX11_untells_141 : decode cX11_untells 141 = .ok (.getfield 37, 3) := by decide +kernel
theorem dX11_untells_144 : decode cX11_untells 144 = .ok (.iload_n 3, 1) := by decide +kernel
theorem dX11_untells_145 : decode cX11_untells 145 = .ok (.aload_n 0, 1) := by decide +kernel
theorem dX11_untells_146 : decode cX11_untells 146 = .ok (.getfield 40, 3) := by decide +kernel
theorem dX11_untells_149 : decode cX11_untells 149 = .ok (.iload_n 3, 1) := by decide +kernel
theorem dX11_untells_150 : decode cX11_untells 150 = .ok (.iaload, 1) := by decide +kernel
theorem dX11_untells_151 : decode cX11_untells 151 = .ok (.iastore, 1) := by decide +kernel
theorem dX11_untells_152 : decode cX11_untells 152 = .ok (.iinc 3 1, 3) := by decide +kernel
theorem dX11_untells_155 : decode cX11_untells 155 = .ok (.goto (-20), 3) := by decide +kernel
theorem dX11_untells_158 : decode cX11_untells 158 = .ok (.iconst 1, 1) := by decide +kernel
theorem dX11_untells_159 : decode cX11_untells 159 = .ok (.ireturn, 1) := by decide +kernel
set_option maxRecDepth 20000 in
theorem ggX11_unsaid_X11_begins : GoodIn wsX11_unsaid wsX11_begins := goodIn_r _ [7, 8, 1, 2, 9, 15, 16, 17, 18, 19, 20, 21, 22, 23, 24, 25, 26, 27, 28, 29, 30, 31, 32, 33, 34, 35] (by decide +kernel) (by decide +kernel)
set_option maxRecDepth 20000 in
theorem gX11_unsaid_X11_begins : GoodIn wsX11_unsaid (wsV RX11 149 RX11 yX11_begins wsX11_begins) := goodIn_app (goodIn_of _ (by decide +kernel)) ggX11_unsaid_X11_begins
set_option maxRecDepth 20000 in
theorem ggX11_unsaid_X11_untells : GoodIn wsX11_unsaid wsX11_untells := goodIn_r _ [13, 1, 2, 14, 15, 16, 17, 18, 19, 20, 21, 22, 23, 24, 25, 26, 27, 28, 29, 30, 31, 32, 33, 34, 35] (by decide +kernel) (by decide +kernel)
set_option maxRecDepth 20000 in
theorem gX11_unsaid_X11_untells : GoodIn wsX11_unsaid (wsV RX11 156 RX11 yX11_untells wsX11_untells) := goodIn_app (goodIn_of _ (by decide +kernel)) ggX11_unsaid_X11_untells
theorem dX11_unsaid_0 : decode cX11_unsaid 0 = .ok (.iload_n 1, 1) := by decide +kernel
theorem dX11_unsaid_1 : decode cX11_unsaid 1 = .ok (.iconst (-1), 1) := by decide +kernel
theorem dX11_unsaid_2 : decode cX11_unsaid 2 = .ok (.if_icmp .ge 5, 3) := by decide +kernel
theorem dX11_unsaid_5 : decode cX11_unsaid 5 = .ok (.iconst (-1), 1) := by decide +kernel
theorem dX11_unsaid_6 : decode cX11_unsaid 6 = .ok (.ireturn, 1) := by decide +kernel
theorem dX11_unsaid_7 : decode cX11_unsaid 7 = .ok (.aload_n 0, 1) := by decide +kernel
theorem dX11_unsaid_8 : decode cX11_unsaid 8 = .ok (.invokevirtual 149, 3) := by decide +kernel
theorem dX11_unsaid_11 : decode cX11_unsaid 11 = .ok (.aload_n 0, 1) := by decide +kernel
theorem dX11_unsaid_12 : decode cX11_unsaid 12 = .ok (.invokevirtual 156, 3) := by decide +kernel
theorem dX11_unsaid_15 : decode cX11_unsaid 15 = .ok (.ifCond .ne 6, 3) := by decide +kernel
theorem dX11_unsaid_18 : decode cX11_unsaid 18 = .ok (.bipush (-2), 2) := by decide +kernel
theorem dX11_unsaid_20 : decode cX11_unsaid 20 = .ok (.ireturn, 1) := by decide +kernel
theorem dX11_unsaid_21 : decode cX11_unsaid 21 = .ok (.iload_n 1, 1) := by decide +kernel
theorem dX11_unsaid_22 : decode cX11_unsaid 22 = .ok (.ifCond .ge 10, 3) := by decide +kernel
theorem dX11_unsaid_25 : decode cX11_unsaid 25 = .ok (.aload_n 0, 1) := by decide +kernel
theorem dX11_unsaid_26 : decode cX11_unsaid 26 = .ok (.getfield 144, 3) := by decide +kernel
theorem dX11_unsaid_29 : decode cX11_unsaid 29 = .ok (.goto 22, 3) := by decide +kernel
theorem dX11_unsaid_32 : decode cX11_unsaid 32 = .ok (.iload_n 1, 1) := by decide +kernel
theorem dX11_unsaid_33 : decode cX11_unsaid 33 = .ok (.aload_n 0, 1) := by decide +kernel
theorem dX11_unsaid_34 : decode cX11_unsaid 34 = .ok (.getfield 144, 3) := by decide +kernel
theorem dX11_unsaid_37 : decode cX11_unsaid 37 = .ok (.if_icmp .ge 12, 3) := by decide +kernel
theorem dX11_unsaid_40 : decode cX11_unsaid 40 = .ok (.aload_n 0, 1) := by decide +kernel
theorem dX11_unsaid_41 : decode cX11_unsaid 41 = .ok (.getfield 37, 3) := by decide +kernel
theorem dX11_unsaid_44 : decode cX11_unsaid 44 = .ok (.iload_n 1, 1) := by decide +kernel
theorem dX11_unsaid_45 : decode cX11_unsaid 45 = .ok (.iaload, 1) := by decide +kernel
theorem dX11_unsaid_46 : decode cX11_unsaid 46 = .ok (.goto 5, 3) := by decide +kernel
theorem dX11_unsaid_49 : decode cX11_unsaid 49 = .ok (.bipush (-4), 2) := by decide +kernel
theorem dX11_unsaid_51 : decode cX11_unsaid 51 = .ok (.ireturn, 1) := by decide +kernel
set_option maxRecDepth 20000 in
theorem ggX11_backs_X11_begins : GoodIn wsX11_backs wsX11_begins := goodIn_r _ [5, 6, 7, 8, 9, 15, 16, 17, 18, 19, 20, 21, 22, 23, 24, 25, 26, 27, 28, 29, 30, 31, 32, 33, 34, 35] (by decide +kernel) (by decide +kernel)
set_option maxRecDepth 20000 in
theorem gX11_backs_X11_begins : GoodIn wsX11_backs (wsV RX11 149 RX11 yX11_begins wsX11_begins) := goodIn_app (goodIn_of _ (by decide +kernel)) ggX11_backs_X11_begins
set_option maxRecDepth 20000 in
theorem ggX11_backs_X11_untells : GoodIn wsX11_backs wsX11_untells := goodIn_r _ [13, 7, 8, 14, 15, 16, 17, 18, 19, 20, 21, 22, 23, 24, 25, 26, 27, 28, 29, 30, 31, 32, 33, 34, 35] (by decide +kernel) (by decide +kernel)
set_option maxRecDepth 20000 in
theorem gX11_backs_X11_untells : GoodIn wsX11_backs (wsV RX11 156 RX11 yX11_untells wsX11_untells) := goodIn_app (goodIn_of _ (by decide +kernel)) ggX11_backs_X11_untells
theorem dX11_backs_0 : decode cX11_backs 0 = .ok (.aload_n 0, 1) := by decide +kernel
theorem dX11_backs_1 : decode cX11_backs 1 = .ok (.invokevirtual 149, 3) := by decide +kernel
theorem dX11_backs_4 : decode cX11_backs 4 = .ok (.iconst 0, 1) := by decide +kernel
theorem dX11_backs_5 : decode cX11_backs 5 = .ok (.istore_n 1, 1) := by decide +kernel
theorem dX11_backs_6 : decode cX11_backs 6 = .ok (.iload_n 1, 1) := by decide +kernel
theorem dX11_backs_7 : decode cX11_backs 7 = .ok (.bipush 20, 2) := by decide +kernel
theorem dX11_backs_9 : decode cX11_backs 9 = .ok (.if_icmp .ge 16, 3) := by decide +kernel
theorem dX11_backs_12 : decode cX11_backs 12 = .ok (.aload_n 0, 1) := by decide +kernel
theorem dX11_backs_13 : decode cX11_backs 13 = .ok (.invokevirtual 156, 3) := by decide +kernel
theorem dX11_backs_16 : decode cX11_backs 16 = .ok (.ifCond .eq 9, 3) := by decide +kernel
theorem dX11_backs_19 : decode cX11_backs 19 = .ok (.iinc 1 1, 3) := by decide +kernel
theorem dX11_backs_22 : decode cX11_backs 22 = .ok (.goto (-16), 3) := by decide +kernel
theorem dX11_backs_25 : decode cX11_backs 25 = .ok (.iload_n 1, 1) := by decide +kernel
theorem dX11_backs_26 : decode cX11_backs 26 = .ok (.ireturn, 1) := by decide +kernel
theorem dX11_areLike_0 : decode cX11_areLike 0 = .ok (.aload_n 0, 1) := by decide +kernel
theorem dX11_areLike_1 : decode cX11_areLike 1 = .ok (.getfield 43, 3) := by decide +kernel
theorem dX11_areLike_4 : decode cX11_areLike 4 = .ok (.iload_n 1, 1) := by decide +kernel
theorem dX11_areLike_5 : decode cX11_areLike 5 = .ok (.iaload, 1) := by decide +kernel
theorem dX11_areLike_6 : decode cX11_areLike 6 = .ok (.aload_n 0, 1) := by decide +kernel
theorem dX11_areLike_7 : decode cX11_areLike 7 = .ok (.getfield 43, 3) := by decide +kernel
theorem dX11_areLike_10 : decode cX11_areLike 10 = .ok (.iload_n 2, 1) := by decide +kernel
theorem dX11_areLike_11 : decode cX11_areLike 11 = .ok (.iaload, 1) := by decide +kernel
theorem dX11_areLike_12 : decode cX11_areLike 12 = .ok (.if_icmp .ne 7, 3) := by decide +kernel
theorem dX11_areLike_15 : decode cX11_areLike 15 = .ok (.iconst 1, 1) := by decide +kernel
theorem dX11_areLike_16 : decode cX11_areLike 16 = .ok (.goto 4, 3) := by decide +kernel
theorem dX11_areLike_19 : decode cX11_areLike 19 = .ok (.iconst 0, 1) := by decide +kernel
theorem dX11_areLike_20 : decode cX11_areLike 20 = .ok (.istore_n 3, 1) := by decide +kernel
theorem dX11_areLike_21 : decode cX11_areLike 21 = .ok (.iconst 0, 1) := by decide +kernel
theorem dX11_areLike_22 : decode cX11_areLike 22 = .ok (.istore 4, 2) := by decide +kernel
theorem dX11_areLike_24 : decode cX11_areLike 24 = .ok (.iload_n 3, 1) := by decide +kernel
theorem dX11_areLike_25 : decode cX11_areLike 25 = .ok (.ifCond .eq 53, 3) := by decide +kernel
theorem dX11_areLike_28 : decode cX11_areLike 28 = .ok (.iload 4, 2) := by decide +kernel
theorem dX11_areLike_30 : decode cX11_areLike 30 = .ok (.aload_n 0, 1) := by decide +kernel
theorem dX11_areLike_31 : decode cX11_areLike 31 = .ok (.getfield 43, 3) := by decide +kernel
theorem dX11_areLike_34 : decode cX11_areLike 34 = .ok (.iload_n 1, 1) := by decide +kernel
theorem dX11_areLike_35 : decode cX11_areLike 35 = .ok (.iaload, 1) := by decide +kernel
theorem dX11_areLike_36 : decode cX11_areLike 36 = .ok (.if_icmp .ge 42, 3) := by decide +kernel
theorem dX11_areLike_39 : decode cX11_areLike 39 = .ok (.aload_n 0, 1) := by decide +kernel
theorem dX11_areLike_40 : decode cX11_areLike 40 = .ok (.getfield 46, 3) := by decide +kernel
theorem dX11_areLike_43 : decode cX11_areLike 43 = .ok (.bipush 40, 2) := by decide +kernel
theorem dX11_areLike_45 : decode cX11_areLike 45 = .ok (.iload_n 1, 1) := by decide +kernel
theorem dX11_areLike_46 : decode cX11_areLike 46 = .ok (.imul, 1) := by decide +kernel
theorem dX11_areLike_47 : decode cX11_areLike 47 = .ok (.iload 4, 2) := by decide +kernel
theorem dX11_areLike_49 : decode cX11_areLike 49 = .ok (.iadd, 1) := by decide +kernel
theorem dX11_areLike_50 : decode cX11_areLike 50 = .ok (.iaload, 1) := by decide +kernel
theorem dX11_areLike_51 : decode cX11_areLike 51 = .ok (.aload_n 0, 1) := by decide +kernel
theorem dX11_areLike_52 : decode cX11_areLike 52 = .ok (.getfield 46, 3) := by decide +kernel
theorem dX11_areLike_55 : decode cX11_areLike 55 = .ok (.bipush 40, 2) := by decide +kernel
theorem dX11_areLike_57 : decode cX11_areLike 57 = .ok (.iload_n 2, 1) := by decide +kernel
theorem dX11_areLike_58 : decode cX11_areLike 58 = .ok (.imul, 1) := by decide +kernel
theorem dX11_areLike_59 : decode cX11_areLike 59 = .ok (.iload 4, 2) := by decide +kernel
theorem dX11_areLike_61 : decode cX11_areLike 61 = .ok (.iadd, 1) := by decide +kernel
theorem dX11_areLike_62 : decode cX11_areLike 62 = .ok (.iaload, 1) := by decide +kernel
theorem dX11_areLike_63 : decode cX11_areLike 63 = .ok (.if_icmp .ne 7, 3) := by decide +kernel
theorem dX11_areLike_66 : decode cX11_areLike 66 = .ok (.iconst 1, 1) := by decide +kernel
theorem dX11_areLike_67 : decode cX11_areLike 67 = .ok (.goto 4, 3) := by decide +kernel
theorem dX11_areLike_70 : decode cX11_areLike 70 = .ok (.iconst 0, 1) := by decide +kernel
theorem dX11_areLike_71 : decode cX11_areLike 71 = .ok (.istore_n 3, 1) := by decide +kernel
theorem dX11_areLike_72 : decode cX11_areLike 72 = .ok (.iinc 4 1, 3) := by decide +kernel
theorem dX11_areLike_75 : decode cX11_areLike 75 = .ok (.goto (-51), 3) := by decide +kernel
theorem dX11_areLike_78 : decode cX11_areLike 78 = .ok (.iload_n 3, 1) := by decide +kernel
theorem dX11_areLike_79 : decode cX11_areLike 79 = .ok (.ireturn, 1) := by decide +kernel
set_option maxRecDepth 20000 in
theorem ggX11_round_X11_in : GoodIn wsX11_round wsX11_in := goodIn_r _ [8] (by decide +kernel) (by decide +kernel)
set_option maxRecDepth 20000 in
theorem gX11_round_X11_in : GoodIn wsX11_round (va_wsS RX11 58 yX11_in wsX11_in) := goodIn_app (goodIn_of _ (by decide +kernel)) ggX11_round_X11_in
set_option maxRecDepth 20000 in
theorem ggX11_round_X11_begins : GoodIn wsX11_round wsX11_begins := goodIn_r _ [12, 13, 2, 4, 14, 24, 25, 26, 27, 28, 29, 30, 31, 32, 33, 34, 35, 36, 37, 38, 39, 40, 41, 42, 43, 44] (by decide +kernel) (by decide +kernel)
set_option maxRecDepth 20000 in
theorem gX11_round_X11_begins : GoodIn wsX11_round (wsV RX11 149 RX11 yX11_begins wsX11_begins) := goodIn_app (goodIn_of _ (by decide +kernel)) ggX11_round_X11_begins
set_option maxRecDepth 20000 in
theorem ggX11_round_X11_tells : GoodIn wsX11_round wsX11_tells := goodIn_r _ [18, 2, 4, 19, 24, 25, 26, 27, 28, 29, 30, 31, 32, 33, 34, 35, 36, 37, 38, 39, 40, 41, 42, 43, 44] (by decide +kernel) (by decide +kernel)
set_option maxRecDepth 20000 in
theorem gX11_round_X11_tells : GoodIn wsX11_round (wsV RX11 152 RX11 yX11_tells wsX11_tells) := goodIn_app (goodIn_of _ (by decide +kernel)) ggX11_round_X11_tells
set_option maxRecDepth 20000 in
theorem ggX11_round_X11_areLike : GoodIn wsX11_round wsX11_areLike := goodIn_r _ [23, 1, 3, 24, 25, 26, 27, 28, 29, 30, 31, 32, 33, 34, 35, 36, 37, 38, 39, 40, 41, 42, 43, 44] (by decide +kernel) (by decide +kernel)
set_option maxRecDepth 20000 in
theorem gX11_round_X11_areLike : GoodIn wsX11_round (wsV RX11 159 RX11 yX11_areLike wsX11_areLike) := goodIn_app (goodIn_of _ (by decide +kernel)) ggX11_round_X11_areLike
theorem dX11_round_0 : decode cX11_round 0 = .ok (.iload_n 1, 1) := by decide +kernel
theorem dX11_round_1 : decode cX11_round 1 = .ok (.i2l, 1) := by decide +kernel
theorem dX11_round_2 : decode cX11_round 2 = .ok (.lconst 0, 1) := by decide +kernel
theorem dX11_round_3 : decode cX11_round 3 = .ok (.lconst 1, 1) := by decide +kernel
theorem dX11_round_4 : decode cX11_round 4 = .ok (.invokestatic 58, 3) := by decide +kernel
theorem dX11_round_7 : decode cX11_round 7 = .ok (.ifCond .ne 5, 3) := by decide +kernel
theorem dX11_round_10 : decode cX11_round 10 = .ok (.iconst (-1), 1) := by decide +kernel
theorem dX11_round_11 : decode cX11_round 11 = .ok (.ireturn, 1) := by decide +kernel
theorem dX11_round_12 : decode cX11_round 12 = .ok (.aload_n 0, 1) := by decide +kernel
theorem dX11_round_13 : decode cX11_round 13 = .ok (.invokevirtual 149, 3) := by decide +kernel
theorem dX11_round_16 : decode cX11_round 16 = .ok (.iconst 0, 1) := by decide +kernel
theorem dX11_round_17 : decode cX11_round 17 = .ok (.istore_n 2, 1) := by decide +kernel
theorem dX11_round_18 : decode cX11_round 18 = .ok (.iload_n 2, 1) := by decide +kernel
theorem dX11_round_19 : decode cX11_round 19 = .ok (.bipush 60, 2) := by decide +kernel
theorem dX11_round_21 : decode cX11_round 21 = .ok (.if_icmp .gt 101, 3) := by decide +kernel
theorem dX11_round_24 : decode cX11_round 24 = .ok (.iload_n 2, 1) := by decide +kernel
theorem dX11_round_25 : decode cX11_round 25 = .ok (.ifCond .le 14, 3) := by decide +kernel
theorem dX11_round_28 : decode cX11_round 28 = .ok (.aload_n 0, 1) := by decide +kernel
theorem dX11_round_29 : decode cX11_round 29 = .ok (.iconst 1, 1) := by decide +kernel
theorem dX11_round_30 : decode cX11_round 30 = .ok (.invokevirtual 152, 3) := by decide +kernel
theorem dX11_round_33 : decode cX11_round 33 = .ok (.ifCond .ne 6, 3) := by decide +kernel
theorem dX11_round_36 : decode cX11_round 36 = .ok (.bipush (-2), 2) := by decide +kernel
theorem dX11_round_38 : decode cX11_round 38 = .ok (.ireturn, 1) := by decide +kernel
theorem dX11_round_39 : decode cX11_round 39 = .ok (.aload_n 0, 1) := by decide +kernel
theorem dX11_round_40 : decode cX11_round 40 = .ok (.getfield 43, 3) := by decide +kernel
theorem dX11_round_43 : decode cX11_round 43 = .ok (.iload_n 2, 1) := by decide +kernel
theorem dX11_round_44 : decode cX11_round 44 = .ok (.aload_n 0, 1) := by decide +kernel
theorem dX11_round_45 : decode cX11_round 45 = .ok (.getfield 144, 3) := by decide +kernel
theorem dX11_round_48 : decode cX11_round 48 = .ok (.iastore, 1) := by decide +kernel
theorem dX11_round_49 : decode cX11_round 49 = .ok (.iconst 0, 1) := by decide +kernel
theorem dX11_round_50 : decode cX11_round 50 = .ok (.istore_n 3, 1) := by decide +kernel
theorem dX11_round_51 : decode cX11_round 51 = .ok (.iload_n 3, 1) := by decide +kernel
theorem dX11_round_52 : decode cX11_round 52 = .ok (.aload_n 0, 1) := by decide +kernel
theorem dX11_round_53 : decode cX11_round 53 = .ok (.getfield 144, 3) := by decide +kernel
theorem dX11_round_56 : decode cX11_round 56 = .ok (.if_icmp .ge 26, 3) := by decide +kernel
theorem dX11_round_59 : decode cX11_round 59 = .ok (.aload_n 0, 1) := by decide +kernel
theorem dX11_round_60 : decode cX11_round 60 = .ok (.getfield 46, 3) := by decide +kernel
theorem dX11_round_63 : decode cX11_round 63 = .ok (.bipush 40, 2) := by decide +kernel
theorem dX11_round_65 : decode cX11_round 65 = .ok (.iload_n 2, 1) := by decide +kernel
theorem dX11_round_66 : decode cX11_round 66 = .ok (.imul, 1) := by decide +kernel
theorem dX11_round_67 : decode cX11_round 67 = .ok (.iload_n 3, 1) := by decide +kernel
theorem dX11_round_68 : decode cX11_round 68 = .ok (.iadd, 1) := by decide +kernel
theorem dX11_round_69 : decode cX11_round 69 = .ok (.aload_n 0, 1) := by decide +kernel
theorem dX11_round_70 : decode cX11_round 70 = .ok (.getfield 37, 3) := by decide +kernel
theorem dX11_round_73 : decode cX11_round 73 = .ok (.iload_n 3, 1) := by decide +kernel
theorem dX11_round_74 : decode cX11_round 74 = .ok (.iaload, 1) := by decide +kernel
theorem dX11_round_75 : decode cX11_round 75 = .ok (.iastore, 1) := by decide +kernel
theorem dX11_round_76 : decode cX11_round 76 = .ok (.iinc 3 1, 3) := by decide +kernel
theorem dX11_round_79 : decode cX11_round 79 = .ok (.goto (-28), 3) := by decide +kernel
theorem dX11_round_82 : decode cX11_round 82 = .ok (.iconst 0, 1) := by decide +kernel
theorem dX11_round_83 : decode cX11_round 83 = .ok (.istore_n 3, 1) := by decide +kernel
theorem dX11_round_84 : decode cX11_round 84 = .ok (.iload_n 3, 1) := by decide +kernel
theorem dX11_round_85 : decode cX11_round 85 = .ok (.iload_n 2, 1) := by decide +kernel
theorem dX11_round_86 : decode cX11_round 86 = .ok (.if_icmp .ge 30, 3) := by decide +kernel
theorem dX11_round_89 : decode cX11_round 89 = .ok (.aload_n 0, 1) := by decide +kernel
theorem dX11_round_90 : decode cX11_round 90 = .ok (.iload_n 3, 1) := by decide +kernel
theorem dX11_round_91 : decode cX11_round 91 = .ok (.iload_n 2, 1) := by decide +kernel
theorem dX11_round_92 : decode cX11_round 92 = .ok (.invokevirtual 159, 3) := by decide +kernel
theorem dX11_round_95 : decode cX11_round 95 = .ok (.ifCond .eq 15, 3) := by decide +kernel
theorem dX11_round_98 : decode cX11_round 98 = .ok (.iload_n 1, 1) := by decide +kernel
theorem dX11_round_99 : decode cX11_round 99 = .ok (.ifCond .ne 7, 3) := by decide +kernel
theorem dX11_round_102 : decode cX11_round 102 = .ok (.iload_n 3, 1) := by decide +kernel
theorem dX11_round_103 : decode cX11_round 103 = .ok (.goto 6, 3) := by decide +kernel
theorem dX11_round_106 : decode cX11_round 106 = .ok (.iload_n 2, 1) := by decide +kernel
theorem dX11_round_107 : decode cX11_round 107 = .ok (.iload_n 3, 1) := by decide +kernel
theorem dX11_round_108 : decode cX11_round 108 = .ok (.isub, 1) := by decide +kernel
theorem dX11_round_109 : decode cX11_round 109 = .ok (.ireturn, 1) := by decide +kernel
theorem dX11_round_110 : decode cX11_round 110 = .ok (.iinc 3 1, 3) := by decide +kernel
theorem dX11_round_113 : decode cX11_round 113 = .ok (.goto (-29), 3) := by decide +kernel
theorem dX11_round_116 : decode cX11_round 116 = .ok (.iinc 2 1, 3) := by decide +kernel
theorem dX11_round_119 : decode cX11_round 119 = .ok (.goto (-101), 3) := by decide +kernel
theorem dX11_round_122 : decode cX11_round 122 = .ok (.bipush (-2), 2) := by decide +kernel
theorem dX11_round_124 : decode cX11_round 124 = .ok (.ireturn, 1) := by decide +kernel
theorem dX11_isTeller_0 : decode cX11_isTeller 0 = .ok (.iconst 1, 1) := by decide +kernel
theorem dX11_isTeller_1 : decode cX11_isTeller 1 = .ok (.istore_n 2, 1) := by decide +kernel
theorem dX11_isTeller_2 : decode cX11_isTeller 2 = .ok (.iconst 0, 1) := by decide +kernel
theorem dX11_isTeller_3 : decode cX11_isTeller 3 = .ok (.istore_n 3, 1) := by decide +kernel
theorem dX11_isTeller_4 : decode cX11_isTeller 4 = .ok (.iload_n 3, 1) := by decide +kernel
theorem dX11_isTeller_5 : decode cX11_isTeller 5 = .ok (.iload_n 1, 1) := by decide +kernel
theorem dX11_isTeller_6 : decode cX11_isTeller 6 = .ok (.if_icmp .ge 69, 3) := by decide +kernel
theorem dX11_isTeller_9 : decode cX11_isTeller 9 = .ok (.iload_n 2, 1) := by decide +kernel
theorem dX11_isTeller_10 : decode cX11_isTeller 10 = .ok (.ifCond .eq 65, 3) := by decide +kernel
theorem dX11_isTeller_13 : decode cX11_isTeller 13 = .ok (.iconst 0, 1) := by decide +kernel
theorem dX11_isTeller_14 : decode cX11_isTeller 14 = .ok (.istore 4, 2) := by decide +kernel
theorem dX11_isTeller_16 : decode cX11_isTeller 16 = .ok (.iconst 0, 1) := by decide +kernel
theorem dX11_isTeller_17 : decode cX11_isTeller 17 = .ok (.istore 5, 2) := by decide +kernel
theorem dX11_isTeller_19 : decode cX11_isTeller 19 = .ok (.iload 5, 2) := by decide +kernel
theorem dX11_isTeller_21 : decode cX11_isTeller 21 = .ok (.iload_n 1, 1) := by decide +kernel
theorem dX11_isTeller_22 : decode cX11_isTeller 22 = .ok (.if_icmp .ge 30, 3) := by decide +kernel
theorem dX11_isTeller_25 : decode cX11_isTeller 25 = .ok (.iload 4, 2) := by decide +kernel
theorem dX11_isTeller_27 : decode cX11_isTeller 27 = .ok (.aload_n 0, 1) := by decide +kernel
theorem dX11_isTeller_28 : decode cX11_isTeller 28 = .ok (.getfield 49, 3) := by decide +kernel
theorem dX11_isTeller_31 : decode cX11_isTeller 31 = .ok (.iload 5, 2) := by decide +kernel
theorem dX11_isTeller_33 : decode cX11_isTeller 33 = .ok (.iaload, 1) := by decide +kernel
theorem dX11_isTeller_34 : decode cX11_isTeller 34 = .ok (.iload_n 3, 1) := by decide +kernel
theorem dX11_isTeller_35 : decode cX11_isTeller 35 = .ok (.if_icmp .ne 7, 3) := by decide +kernel
theorem dX11_isTeller_38 : decode cX11_isTeller 38 = .ok (.iconst 1, 1) := by decide +kernel
theorem dX11_isTeller_39 : decode cX11_isTeller 39 = .ok (.goto 4, 3) := by decide +kernel
theorem dX11_isTeller_42 : decode cX11_isTeller 42 = .ok (.iconst 0, 1) := by decide +kernel
theorem dX11_isTeller_43 : decode cX11_isTeller 43 = .ok (.iadd, 1) := by decide +kernel
theorem dX11_isTeller_44 : decode cX11_isTeller 44 = .ok (.istore 4, 2) := by decide +kernel
theorem dX11_isTeller_46 : decode cX11_isTeller 46 = .ok (.iinc 5 1, 3) := by decide +kernel
theorem dX11_isTeller_49 : decode cX11_isTeller 49 = .ok (.goto (-30), 3) := by decide +kernel
theorem dX11_isTeller_52 : decode cX11_isTeller 52 = .ok (.iload 4, 2) := by decide +kernel
theorem dX11_isTeller_54 : decode cX11_isTeller 54 = .ok (.aload_n 0, 1) := by decide +kernel
theorem dX11_isTeller_55 : decode cX11_isTeller 55 = .ok (.getfield 49, 3) := by decide +kernel
theorem dX11_isTeller_58 : decode cX11_isTeller 58 = .ok (.iload_n 3, 1) := by decide +kernel
theorem dX11_isTeller_59 : decode cX11_isTeller 59 = .ok (.iaload, 1) := by decide +kernel
theorem dX11_isTeller_60 : decode cX11_isTeller 60 = .ok (.if_icmp .ne 7, 3) := by decide +kernel
theorem dX11_isTeller_63 : decode cX11_isTeller 63 = .ok (.iconst 1, 1) := by decide +kernel
theorem dX11_isTeller_64 : decode cX11_isTeller 64 = .ok (.goto 4, 3) := by decide +kernel
theorem dX11_isTeller_67 : decode cX11_isTeller 67 = .ok (.iconst 0, 1) := by decide +kernel
theorem dX11_isTeller_68 : decode cX11_isTeller 68 = .ok (.istore_n 2, 1) := by decide +kernel
theorem dX11_isTeller_69 : decode cX11_isTeller 69 = .ok (.iinc 3 1, 3) := by decide +kernel
theorem dX11_isTeller_72 : decode cX11_isTeller 72 = .ok (.goto (-68), 3) := by decide +kernel
theorem dX11_isTeller_75 : decode cX11_isTeller 75 = .ok (.iload_n 2, 1) := by decide +kernel
theorem dX11_isTeller_76 : decode cX11_isTeller 76 = .ok (.ireturn, 1) := by decide +kernel
theorem dX11_code_0 : decode cX11_code 0 = .ok (.lconst 0, 1) := by decide +kernel
theorem dX11_code_1 : decode cX11_code 1 = .ok (.lstore_n 2, 1) := by decide +kernel
theorem dX11_code_2 : decode cX11_code 2 = .ok (.iconst 0, 1) := by decide +kernel
theorem dX11_code_3 : decode cX11_code 3 = .ok (.istore 4, 2) := by decide +kernel
theorem dX11_code_5 : decode cX11_code 5 = .ok (.iload 4, 2) := by decide +kernel
theorem dX11_code_7 : decode cX11_code 7 = .ok (.iload_n 1, 1) := by decide +kernel
theorem dX11_code_8 : decode cX11_code 8 = .ok (.if_icmp .ge 24, 3) := by decide +kernel
theorem dX11_code_11 : decode cX11_code 11 = .ok (.ldc2_w 163, 3) := by decide +kernel
theorem dX11_code_14 : decode cX11_code 14 = .ok (.lload_n 2, 1) := by decide +kernel
theorem dX11_code_15 : decode cX11_code 15 = .ok (.lmul, 1) := by decide +kernel
theorem dX11_code_16 : decode cX11_code 16 = .ok (.aload_n 0, 1) := by decide +kernel
theorem dX11_code_17 : decode cX11_code 17 = .ok (.getfield 49, 3) := by decide +kernel
theorem dX11_code_20 : decode cX11_code 20 = .ok (.iload 4, 2) := by decide +kernel
theorem dX11_code_22 : decode cX11_code 22 = .ok (.iaload, 1) := by decide +kernel
theorem dX11_code_23 : decode cX11_code 23 = .ok (.i2l, 1) := by decide +kernel
theorem dX11_code_24 : decode cX11_code 24 = .ok (.ladd, 1) := by decide +kernel
theorem dX11_code_25 : decode cX11_code 25 = .ok (.lstore_n 2, 1) := by decide +kernel
theorem dX11_code_26 : decode cX11_code 26 = .ok (.iinc 4 1, 3) := by decide +kernel
theorem dX11_code_29 : decode cX11_code 29 = .ok (.goto (-24), 3) := by decide +kernel
theorem dX11_code_32 : decode cX11_code 32 = .ok (.lload_n 2, 1) := by decide +kernel
theorem dX11_code_33 : decode cX11_code 33 = .ok (.lreturn, 1) := by decide +kernel
set_option maxRecDepth 20000 in
theorem ggX11_tellers_X11_in : GoodIn wsX11_tellers wsX11_in := goodIn_r _ [9] (by decide +kernel) (by decide +kernel)
set_option maxRecDepth 20000 in
theorem gX11_tellers_X11_in : GoodIn wsX11_tellers (va_wsS RX11 58 yX11_in wsX11_in) := goodIn_app (goodIn_of _ (by decide +kernel)) ggX11_tellers_X11_in
set_option maxRecDepth 20000 in
theorem ggX11_tellers_X11_isTeller : GoodIn wsX11_tellers wsX11_isTeller := goodIn_r _ [13, 4, 18, 19, 20, 21, 22, 23, 24, 25, 26, 27, 28, 29, 30, 31, 32, 33, 34, 35, 36, 37, 38] (by decide +kernel) (by decide +kernel)
set_option maxRecDepth 20000 in
theorem gX11_tellers_X11_isTeller : GoodIn wsX11_tellers (wsV RX11 167 RX11 yX11_isTeller wsX11_isTeller) := goodIn_app (goodIn_of _ (by decide +kernel)) ggX11_tellers_X11_isTeller
set_option maxRecDepth 20000 in
theorem ggX11_tellers_X11_code : GoodIn wsX11_tellers wsX11_code := goodIn_r _ [17, 2, 4, 18, 19, 20, 21, 22, 23, 24, 25, 26, 27, 28, 29, 30, 31, 32, 33, 34, 35, 36, 37, 38] (by decide +kernel) (by decide +kernel)
set_option maxRecDepth 20000 in
theorem gX11_tellers_X11_code : GoodIn wsX11_tellers (wsV RX11 170 RX11 yX11_code wsX11_code) := goodIn_app (goodIn_of _ (by decide +kernel)) ggX11_tellers_X11_code
theorem dX11_tellers_0 : decode cX11_tellers 0 = .ok (.iload_n 1, 1) := by decide +kernel
theorem dX11_tellers_1 : decode cX11_tellers 1 = .ok (.i2l, 1) := by decide +kernel
theorem dX11_tellers_2 : decode cX11_tellers 2 = .ok (.ldc2_w 72, 3) := by decide +kernel
theorem dX11_tellers_5 : decode cX11_tellers 5 = .ok (.ldc2_w 163, 3) := by decide +kernel
theorem dX11_tellers_8 : decode cX11_tellers 8 = .ok (.invokestatic 58, 3) := by decide +kernel
theorem dX11_tellers_11 : decode cX11_tellers 11 = .ok (.ifCond .eq 8, 3) := by decide +kernel
theorem dX11_tellers_14 : decode cX11_tellers 14 = .ok (.iload_n 2, 1) := by decide +kernel
theorem dX11_tellers_15 : decode cX11_tellers 15 = .ok (.iconst (-1), 1) := by decide +kernel
theorem dX11_tellers_16 : decode cX11_tellers 16 = .ok (.if_icmp .ge 7, 3) := by decide +kernel
theorem dX11_tellers_19 : decode cX11_tellers 19 = .ok (.ldc2_w 165, 3) := by decide +kernel
theorem dX11_tellers_22 : decode cX11_tellers 22 = .ok (.lreturn, 1) := by decide +kernel
theorem dX11_tellers_23 : decode cX11_tellers 23 = .ok (.iconst 0, 1) := by decide +kernel
theorem dX11_tellers_24 : decode cX11_tellers 24 = .ok (.istore_n 3, 1) := by decide +kernel
theorem dX11_tellers_25 : decode cX11_tellers 25 = .ok (.iconst 0, 1) := by decide +kernel
theorem dX11_tellers_26 : decode cX11_tellers 26 = .ok (.istore 4, 2) := by decide +kernel
theorem dX11_tellers_28 : decode cX11_tellers 28 = .ok (.iconst 0, 1) := by decide +kernel
theorem dX11_tellers_29 : decode cX11_tellers 29 = .ok (.istore 5, 2) := by decide +kernel
theorem dX11_tellers_31 : decode cX11_tellers 31 = .ok (.aload_n 0, 1) := by decide +kernel
theorem dX11_tellers_32 : decode cX11_tellers 32 = .ok (.getfield 49, 3) := by decide +kernel
theorem dX11_tellers_35 : decode cX11_tellers 35 = .ok (.iconst 0, 1) := by decide +kernel
theorem dX11_tellers_36 : decode cX11_tellers 36 = .ok (.iconst (-1), 1) := by decide +kernel
theorem dX11_tellers_37 : decode cX11_tellers 37 = .ok (.iastore, 1) := by decide +kernel
theorem dX11_tellers_38 : decode cX11_tellers 38 = .ok (.iload 4, 2) := by decide +kernel
theorem dX11_tellers_40 : decode cX11_tellers 40 = .ok (.ifCond .lt 139, 3) := by decide +kernel
theorem dX11_tellers_43 : decode cX11_tellers 43 = .ok (.aload_n 0, 1) := by decide +kernel
theorem dX11_tellers_44 : decode cX11_tellers 44 = .ok (.getfield 49, 3) := by decide +kernel
theorem dX11_tellers_47 : decode cX11_tellers 47 = .ok (.iload 4, 2) := by decide +kernel
theorem dX11_tellers_49 : decode cX11_tellers 49 = .ok (.dup2, 1) := by decide +kernel
theorem dX11_tellers_50 : decode cX11_tellers 50 = .ok (.iaload, 1) := by decide +kernel
theorem dX11_tellers_51 : decode cX11_tellers 51 = .ok (.iconst 1, 1) := by decide +kernel
theorem dX11_tellers_52 : decode cX11_tellers 52 = .ok (.iadd, 1) := by decide +kernel
theorem dX11_tellers_53 : decode cX11_tellers 53 = .ok (.iastore, 1) := by decide +kernel
theorem dX11_tellers_54 : decode cX11_tellers 54 = .ok (.aload_n 0, 1) := by decide +kernel
theorem dX11_tellers_55 : decode cX11_tellers 55 = .ok (.getfield 49, 3) := by decide +kernel
theorem dX11_tellers_58 : decode cX11_tellers 58 = .ok (.iload 4, 2) := by decide +kernel
theorem dX11_tellers_60 : decode cX11_tellers 60 = .ok (.iaload, 1) := by decide +kernel
theorem dX11_tellers_61 : decode cX11_tellers 61 = .ok (.iload_n 1, 1) := by decide +kernel
theorem dX11_tellers_62 : decode cX11_tellers 62 = .ok (.if_icmp .eq 17, 3) := by decide +kernel
theorem dX11_tellers_65 : decode cX11_tellers 65 = .ok (.iload 5, 2) := by decide +kernel
theorem dX11_tellers_67 : decode cX11_tellers 67 = .ok (.aload_n 0, 1) := by decide +kernel
theorem dX11_tellers_68 : decode cX11_tellers 68 = .ok (.getfield 49, 3) := by decide +kernel
theorem dX11_tellers_71 : decode cX11_tellers 71 = .ok (.iload 4, 2) := by decide +kernel
theorem dX11_tellers_73 : decode cX11_tellers 73 = .ok (.iaload, 1) := by decide +kernel
theorem dX11_tellers_74 : decode cX11_tellers 74 = .ok (.iadd, 1) := by decide +kernel
theorem dX11_tellers_75 : decode cX11_tellers 75 = .ok (.iload_n 1, 1) := by decide +kernel
theorem dX11_tellers_76 : decode cX11_tellers 76 = .ok (.if_icmp .le 30, 3) := by decide +kernel
theorem dX11_tellers_79 : decode cX11_tellers 79 = .ok (.iinc 4 (-1), 3) := by decide +kernel
theorem dX11_tellers_82 : decode cX11_tellers 82 = .ok (.iload 5, 2) := by decide +kernel
theorem dX11_tellers_84 : decode cX11_tellers 84 = .ok (.iload 4, 2) := by decide +kernel
theorem dX11_tellers_86 : decode cX11_tellers 86 = .ok (.ifCond .lt 13, 3) := by decide +kernel
theorem dX11_tellers_89 : decode cX11_tellers 89 = .ok (.aload_n 0, 1) := by decide +kernel
theorem dX11_tellers_90 : decode cX11_tellers 90 = .ok (.getfield 49, 3) := by decide +kernel
theorem dX11_tellers_93 : decode cX11_tellers 93 = .ok (.iload 4, 2) := by decide +kernel
theorem dX11_tellers_95 : decode cX11_tellers 95 = .ok (.iaload, 1) := by decide +kernel
theorem dX11_tellers_96 : decode cX11_tellers 96 = .ok (.goto 4, 3) := by decide +kernel
theorem dX11_tellers_99 : decode cX11_tellers 99 = .ok (.iconst 0, 1) := by decide +kernel
theorem dX11_tellers_100 : decode cX11_tellers 100 = .ok (.isub, 1) := by decide +kernel
theorem dX11_tellers_101 : decode cX11_tellers 101 = .ok (.istore 5, 2) := by decide +kernel
theorem dX11_tellers_103 : decode cX11_tellers 103 = .ok (.goto (-65), 3) := by decide +kernel
theorem dX11_tellers_106 : decode cX11_tellers 106 = .ok (.iload 4, 2) := by decide +kernel
theorem dX11_tellers_108 : decode cX11_tellers 108 = .ok (.iload_n 1, 1) := by decide +kernel
theorem dX11_tellers_109 : decode cX11_tellers 109 = .ok (.iconst 1, 1) := by decide +kernel
theorem dX11_tellers_110 : decode cX11_tellers 110 = .ok (.isub, 1) := by decide +kernel
theorem dX11_tellers_111 : decode cX11_tellers 111 = .ok (.if_icmp .ge 29, 3) := by decide +kernel
theorem dX11_tellers_114 : decode cX11_tellers 114 = .ok (.iload 5, 2) := by decide +kernel
theorem dX11_tellers_116 : decode cX11_tellers 116 = .ok (.aload_n 0, 1) := by decide +kernel
theorem dX11_tellers_117 : decode cX11_tellers 117 = .ok (.getfield 49, 3) := by decide +kernel
theorem dX11_tellers_120 : decode cX11_tellers 120 = .ok (.iload 4, 2) := by decide +kernel
theorem dX11_tellers_122 : decode cX11_tellers 122 = .ok (.iaload, 1) := by decide +kernel
theorem dX11_tellers_123 : decode cX11_tellers 123 = .ok (.iadd, 1) := by decide +kernel
theorem dX11_tellers_124 : decode cX11_tellers 124 = .ok (.istore 5, 2) := by decide +kernel
theorem dX11_tellers_126 : decode cX11_tellers 126 = .ok (.iinc 4 1, 3) := by decide +kernel
theorem dX11_tellers_129 : decode cX11_tellers 129 = .ok (.aload_n 0, 1) := by decide +kernel
theorem dX11_tellers_130 : decode cX11_tellers 130 = .ok (.getfield 49, 3) := by decide +kernel
theorem dX11_tellers_133 : decode cX11_tellers 133 = .ok (.iload 4, 2) := by decide +kernel
theorem dX11_tellers_135 : decode cX11_tellers 135 = .ok (.iconst (-1), 1) := by decide +kernel
theorem dX11_tellers_136 : decode cX11_tellers 136 = .ok (.iastore, 1) := by decide +kernel
theorem dX11_tellers_137 : decode cX11_tellers 137 = .ok (.goto (-99), 3) := by decide +kernel
theorem dX11_tellers_140 : decode cX11_tellers 140 = .ok (.iload 5, 2) := by decide +kernel
theorem dX11_tellers_142 : decode cX11_tellers 142 = .ok (.aload_n 0, 1) := by decide +kernel
theorem dX11_tellers_143 : decode cX11_tellers 143 = .ok (.getfield 49, 3) := by decide +kernel
theorem dX11_tellers_146 : decode cX11_tellers 146 = .ok (.iload 4, 2) := by decide +kernel
theorem dX11_tellers_148 : decode cX11_tellers 148 = .ok (.iaload, 1) := by decide +kernel
theorem dX11_tellers_149 : decode cX11_tellers 149 = .ok (.iadd, 1) := by decide +kernel
theorem dX11_tellers_150 : decode cX11_tellers 150 = .ok (.iload_n 1, 1) := by decide +kernel
theorem dX11_tellers_151 : decode cX11_tellers 151 = .ok (.if_icmp .ne (-113), 3) := by decide +kernel
theorem dX11_tellers_154 : decode cX11_tellers 154 = .ok (.aload_n 0, 1) := by decide +kernel
theorem dX11_tellers_155 : decode cX11_tellers 155 = .ok (.iload_n 1, 1) := by decide +kernel
theorem dX11_tellers_156 : decode cX11_tellers 156 = .ok (.invokevirtual 167, 3) := by decide +kernel
theorem dX11_tellers_159 : decode cX11_tellers 159 = .ok (.ifCond .eq (-121), 3) := by decide +kernel
theorem dX11_tellers_162 : decode cX11_tellers 162 = .ok (.iload_n 3, 1) := by decide +kernel
theorem dX11_tellers_163 : decode cX11_tellers 163 = .ok (.iload_n 2, 1) := by decide +kernel
theorem dX11_tellers_164 : decode cX11_tellers 164 = .ok (.if_icmp .ne 9, 3) := by decide +kernel
theorem dX11_tellers_167 : decode cX11_tellers 167 = .ok (.aload_n 0, 1) := by decide +kernel
theorem dX11_tellers_168 : decode cX11_tellers 168 = .ok (.iload_n 1, 1) := by decide +kernel
theorem dX11_tellers_169 : decode cX11_tellers 169 = .ok (.invokevirtual 170, 3) := by decide +kernel
theorem dX11_tellers_172 : decode cX11_tellers 172 = .ok (.lreturn, 1) := by decide +kernel
theorem dX11_tellers_173 : decode cX11_tellers 173 = .ok (.iinc 3 1, 3) := by decide +kernel
theorem dX11_tellers_176 : decode cX11_tellers 176 = .ok (.goto (-138), 3) := by decide +kernel
theorem dX11_tellers_179 : decode cX11_tellers 179 = .ok (.iload_n 2, 1) := by decide +kernel
theorem dX11_tellers_180 : decode cX11_tellers 180 = .ok (.ifCond .ge 8, 3) := by decide +kernel
theorem dX11_tellers_183 : decode cX11_tellers 183 = .ok (.iload_n 3, 1) := by decide +kernel
theorem dX11_tellers_184 : decode cX11_tellers 184 = .ok (.i2l, 1) := by decide +kernel
theorem dX11_tellers_185 : decode cX11_tellers 185 = .ok (.goto 6, 3) := by decide +kernel
theorem dX11_tellers_188 : decode cX11_tellers 188 = .ok (.ldc2_w 174, 3) := by decide +kernel
theorem dX11_tellers_191 : decode cX11_tellers 191 = .ok (.lreturn, 1) := by decide +kernel
theorem dX11_count_0 : decode cX11_count 0 = .ok (.iload_n 1, 1) := by decide +kernel
theorem dX11_count_1 : decode cX11_count 1 = .ok (.ifCond .ne 10, 3) := by decide +kernel
theorem dX11_count_4 : decode cX11_count 4 = .ok (.aload_n 0, 1) := by decide +kernel
theorem dX11_count_5 : decode cX11_count 5 = .ok (.getfield 62, 3) := by decide +kernel
theorem dX11_count_8 : decode cX11_count 8 = .ok (.goto 28, 3) := by decide +kernel
theorem dX11_count_11 : decode cX11_count 11 = .ok (.iload_n 1, 1) := by decide +kernel
theorem dX11_count_12 : decode cX11_count 12 = .ok (.iconst 1, 1) := by decide +kernel
theorem dX11_count_13 : decode cX11_count 13 = .ok (.if_icmp .ne 10, 3) := by decide +kernel
theorem dX11_count_16 : decode cX11_count 16 = .ok (.aload_n 0, 1) := by decide +kernel
theorem dX11_count_17 : decode cX11_count 17 = .ok (.getfield 133, 3) := by decide +kernel
theorem dX11_count_20 : decode cX11_count 20 = .ok (.goto 16, 3) := by decide +kernel
theorem dX11_count_23 : decode cX11_count 23 = .ok (.iload_n 1, 1) := by decide +kernel
theorem dX11_count_24 : decode cX11_count 24 = .ok (.iconst 2, 1) := by decide +kernel
theorem dX11_count_25 : decode cX11_count 25 = .ok (.if_icmp .ne 10, 3) := by decide +kernel
theorem dX11_count_28 : decode cX11_count 28 = .ok (.aload_n 0, 1) := by decide +kernel
theorem dX11_count_29 : decode cX11_count 29 = .ok (.getfield 141, 3) := by decide +kernel
theorem dX11_count_32 : decode cX11_count 32 = .ok (.goto 4, 3) := by decide +kernel
theorem dX11_count_35 : decode cX11_count 35 = .ok (.iconst (-1), 1) := by decide +kernel
theorem dX11_count_36 : decode cX11_count 36 = .ok (.ireturn, 1) := by decide +kernel
end
section
/-! numbers: an int by its whole number; the rows of the walk in these words -/
def iI (z : Int) : Int32 := Int32.ofInt z
theorem iI_add (a b : Int) : iI a + iI b = iI (a + b) := (Int32.ofInt_add a b).symm
theorem iI_sub (a b : Int) : iI a - iI b = iI (a - b) := (Int32.ofInt_sub a b).symm
theorem iI_mul (a b : Int) : iI a * iI b = iI (a * b) := (Int32.ofInt_mul a b).symm
theorem iI_neg (a : Int) : -iI a = iI (-a) := (Int32.ofInt_neg a).symm
theorem iI_toInt {z : Int} (h1 : -2147483648 ≤ z) (h2 : z ≤ 2147483647) : (iI z).toInt = z := Int32.toInt_ofInt_of_le (by omega) (by omega)
theorem iI_ex (x : Int32) : ∃ z : Int, x = iI z ∧ -2147483648 ≤ z ∧ z ≤ 2147483647 := by
  refine ⟨x.toInt, (Int32.ofInt_toInt x).symm, ?_, ?_⟩
  · have := x.le_toInt; omega
  · have := x.toInt_lt; omega
theorem iI_lt {a b : Int} (h : (-2147483648 ≤ a ∧ a ≤ 2147483647) ∧ (-2147483648 ≤ b ∧ b ≤ 2147483647)) : iI a < iI b ↔ a < b := by
  rw [Int32.lt_iff_toInt_lt, iI_toInt h.1.1 h.1.2, iI_toInt h.2.1 h.2.2]
theorem iI_le {a b : Int} (h : (-2147483648 ≤ a ∧ a ≤ 2147483647) ∧ (-2147483648 ≤ b ∧ b ≤ 2147483647)) : iI a ≤ iI b ↔ a ≤ b := by
  rw [Int32.le_iff_toInt_le, iI_toInt h.1.1 h.1.2, iI_toInt h.2.1 h.2.2]
theorem iI_eq {a b : Int} (h : (-2147483648 ≤ a ∧ a ≤ 2147483647) ∧ (-2147483648 ≤ b ∧ b ≤ 2147483647)) : iI a = iI b ↔ a = b := by
  rw [← Int32.toInt_inj, iI_toInt h.1.1 h.1.2, iI_toInt h.2.1 h.2.2]
theorem iI_0 : iI 0 = 0 := rfl
theorem iI_tn {z : Int} (h0 : 0 ≤ z) (h1 : z ≤ 2147483647) : (iI z).toNatClampNeg = z.toNat := Int32.toNatClampNeg_ofInt_of_le (by omega) (by omega)
theorem iI_in {z : Int} {n : Nat} (h : 0 ≤ z ∧ z < n) (hn : n ≤ 2147483647) : vp_in (iI z) n := by
  have h0 := h.1
  have h1 := h.2
  rw [vp_in_iff, iI_toInt (by omega) (by omega)]
  omega
theorem iI_ofNat (n : Nat) : Int32.ofNat n = iI n := (Int32.ofInt_eq_ofNat).symm
theorem iI_nI (n : Nat) : nI n = iI n := iI_ofNat n
/-- the contents of a row of ints by its numbers -/
def iA (g : Int → Int) : Nat → Int32 := fun k => iI (g k)
/-- one number of a row anew -/
def up (g : Int → Int) (k x : Int) : Int → Int := fun j => if j = k then x else g j
theorem up_s (g : Int → Int) (k x : Int) : up g k x k = x := by simp [up]
theorem up_n (g : Int → Int) {k j : Int} (x : Int) (h : j ≠ k) : up g k x j = g j := by simp [up, h]
theorem iA_get (g : Int → Int) {z : Int} (h0 : 0 ≤ z) (h1 : z ≤ 2147483647) : iA g (iI z).toNatClampNeg = iI (g z) := by
  rw [iI_tn h0 h1, iA, Int.toNat_of_nonneg h0]
theorem iA_set (g : Int → Int) {z : Int} (x : Int) (h0 : 0 ≤ z) (h1 : z ≤ 2147483647) : upd (iA g) (iI z).toNatClampNeg (iI x) = iA (up g z x) := by
  rw [iI_tn h0 h1]
  funext j
  simp only [upd, iA, up]
  by_cases hj : j = z.toNat
  · subst hj
    rw [if_pos rfl, if_pos (Int.toNat_of_nonneg h0)]
  · rw [if_neg hj, if_neg (by omega)]
/-! a world in which some cells stand anew -/
def zv_re (ws : va_W) (is : List Nat) (w1 : va_W) : va_W := (is.zip w1).foldl (fun x q => x.set q.1 q.2) ws
theorem zv_re_c (ws : va_W) (i : Nat) (is : List Nat) (q : Nat × va_E) (w1 : va_W) : zv_re ws (i :: is) (q :: w1) = zv_re (ws.set i q) is w1 := rfl
theorem zv_re_len : ∀ (is : List Nat) (w1 ws : va_W), (zv_re ws is w1).length = ws.length
  | [], _, _ => rfl
  | _ :: _, [], _ => rfl
  | i :: is, q :: w1, ws => by rw [zv_re_c, zv_re_len is w1, List.length_set]
theorem zv_re_out : ∀ (is : List Nat) (w1 ws : va_W) (k : Nat), k ∉ is → (zv_re ws is w1)[k]? = ws[k]?
  | [], _, _, _, _ => rfl
  | _ :: _, [], _, _, _ => rfl
  | i :: is, q :: w1, ws, k, h => by
    rw [zv_re_c, zv_re_out is w1 _ k (fun z => h (List.mem_cons_of_mem _ z)), List.getElem?_set_ne (fun z => h (by rw [z]; exact List.mem_cons_self))]
theorem zv_re_in : ∀ (is : List Nat) (w1 ws : va_W), va_nd is = true → (∀ i ∈ is, i < ws.length) → ∀ (j k : Nat), is[j]? = some k → j < w1.length → (zv_re ws is w1)[k]? = w1[j]?
  | [], _, _, _, _, j, k, h, _ => by simp at h
  | _ :: _, [], _, _, _, _, _, _, h => absurd h (Nat.not_lt_zero _)
  | i :: is, q :: w1, ws, hn, hl, j, k, h, hj => by
    simp only [va_nd, Bool.and_eq_true, decide_eq_true_eq] at hn
    cases j with
    | zero =>
      rw [List.getElem?_cons_zero] at h
      cases h
      rw [zv_re_c, zv_re_out is w1 _ i hn.1, List.getElem?_set_self (hl i List.mem_cons_self)]
      rfl
    | succ j =>
      rw [List.getElem?_cons_succ] at h
      rw [zv_re_c, List.getElem?_cons_succ]
      exact zv_re_in is w1 _ hn.2 (fun x hx => by rw [List.length_set]; exact hl x (List.mem_cons_of_mem _ hx)) j k h (Nat.lt_of_succ_lt_succ hj)
theorem zv_adr {ws wc w1 : va_W} {is : List Nat} (hC : is.map (fun i => ws[i]?) = wc.map some) (hn : va_nd is = true) (ha : w1.map Prod.fst = wc.map Prod.fst) (k : Nat) : ((zv_re ws is w1)[k]?).map Prod.fst = (ws[k]?).map Prod.fst := by
  have hlen : is.length = wc.length := by have := congrArg List.length hC; simpa using this
  have hlen1 : w1.length = wc.length := by have := congrArg List.length ha; simpa using this
  have hmem : ∀ (j i : Nat), is[j]? = some i → ∃ q, wc[j]? = some q ∧ ws[i]? = some q := by
    intro j i hj
    have h2 := congrArg (fun l => l[j]?) hC
    simp only [List.getElem?_map, hj, Option.map_some] at h2
    cases hw : wc[j]? with
    | none => rw [hw] at h2; cases h2
    | some q => rw [hw] at h2; exact ⟨q, rfl, by simpa using h2⟩
  by_cases hk : k ∈ is
  · obtain ⟨j, hj⟩ := List.getElem?_of_mem hk
    obtain ⟨q, hq, hwq⟩ := hmem j k hj
    have hjl : j < w1.length := by rw [hlen1, ← hlen]; exact (List.getElem?_eq_some_iff.mp hj).1
    rw [zv_re_in is w1 ws hn (fun i hi => by
      obtain ⟨j', hj'⟩ := List.getElem?_of_mem hi
      obtain ⟨q', -, h'⟩ := hmem j' i hj'
      exact (List.getElem?_eq_some_iff.mp h').1) j k hj hjl, hwq]
    have h3 := congrArg (fun l => l[j]?) ha
    simp only [List.getElem?_map, hq] at h3
    exact h3
  · rw [zv_re_out is w1 ws k hk]
theorem zv_join {A0 : Nat → Prop} {D : va_G} {cl : List vw_C} {ws wc w1 : va_W} {H H1 : Heap} (hP : va_P D cl ws H) (hD : va_D A0 ws) (is : List Nat) (hC : is.map (fun i => ws[i]?) = wc.map some) (hn : va_nd is = true) (ha : w1.map Prod.fst = wc.map Prod.fst)
    (hk : ∀ q : Nat, q < H.size → ¬ va_A wc H.size q → H1[q]? = H[q]?) (hP1 : va_P D cl w1 H1) : va_P D cl (zv_re ws is w1) H1 ∧ va_D A0 (zv_re ws is w1) := by
  have hlen : is.length = wc.length := by have := congrArg List.length hC; simpa using this
  have hlen1 : w1.length = wc.length := by have := congrArg List.length ha; simpa using this
  have hmem : ∀ (j i : Nat), is[j]? = some i → ∃ q, wc[j]? = some q ∧ ws[i]? = some q := by
    intro j i hj
    have h2 := congrArg (fun l => l[j]?) hC
    simp only [List.getElem?_map, hj, Option.map_some] at h2
    cases hw : wc[j]? with
    | none => rw [hw] at h2; cases h2
    | some q => rw [hw] at h2; exact ⟨q, rfl, by simpa using h2⟩
  have hmem2 : ∀ (j : Nat) (q : Nat × va_E), wc[j]? = some q → ∃ i, is[j]? = some i ∧ ws[i]? = some q := by
    intro j q hq
    have hj : j < is.length := by rw [hlen]; exact (List.getElem?_eq_some_iff.mp hq).1
    refine ⟨is[j], List.getElem?_eq_getElem hj, ?_⟩
    obtain ⟨q', h1, h2⟩ := hmem j is[j] (List.getElem?_eq_getElem hj)
    rw [h1] at hq
    cases hq
    exact h2
  have hin : ∀ i ∈ is, i < ws.length := fun i hi => by
    obtain ⟨j', hj'⟩ := List.getElem?_of_mem hi
    obtain ⟨q', -, h'⟩ := hmem j' i hj'
    exact (List.getElem?_eq_some_iff.mp h').1
  have hadr := zv_adr hC hn ha
  refine ⟨?_, ?_, ?_⟩
  · intro k q hq
    by_cases hki : k ∈ is
    · obtain ⟨j, hj⟩ := List.getElem?_of_mem hki
      have hjl : j < w1.length := by rw [hlen1, ← hlen]; exact (List.getElem?_eq_some_iff.mp hj).1
      rw [zv_re_in is w1 ws hn hin j k hj hjl] at hq
      exact hP1 j q hq
    · rw [zv_re_out is w1 ws k hki] at hq
      refine (hP k q hq).kept (hk q.1 (hP k q hq).lt ?_)
      rintro (⟨j, e, hj⟩ | hge)
      · obtain ⟨i, hi, hwi⟩ := hmem2 j (q.1, e) hj
        have := hD.1 i k (q.1, e) q hwi hq rfl
        subst this
        exact hki (List.mem_of_getElem? hi)
      · exact absurd (hP k q hq).lt (Nat.not_lt.mpr hge)
  · intro i j p q hi hj hpq
    have h1 := hadr i
    have h2 := hadr j
    rw [hi] at h1
    rw [hj] at h2
    cases hwi : ws[i]? with
    | none => rw [hwi] at h1; cases h1
    | some p' =>
      cases hwj : ws[j]? with
      | none => rw [hwj] at h2; cases h2
      | some q' =>
        rw [hwi] at h1
        rw [hwj] at h2
        simp only [Option.map_some, Option.some.injEq] at h1 h2
        exact hD.1 i j p' q' hwi hwj (by rw [← h1, ← h2]; exact hpq)
  · intro k q hq
    have h1 := hadr k
    rw [hq] at h1
    cases hwk : ws[k]? with
    | none => rw [hwk] at h1; cases h1
    | some p' =>
      rw [hwk] at h1
      simp only [Option.map_some, Option.some.injEq] at h1
      rw [h1]
      exact hD.2 k p' hwk
end
section
/-! what a method takes as known beside its cells: the classes, the row classes, the nest's links, the enum's constants, the two static rows -/
abbrev GG : Type := va_G × (Nat → ClassId) × (Nat → Nat)
abbrev tysG (G : GG) : List (ClassId × FieldType) := [(G.2.1 0, .int), (G.2.1 1, .byte), (G.2.1 2, .boolean), (G.2.1 3, .object RX5), (G.2.1 4, .object RX6)]
def nw_L : List Cond := [.fieldLinkNest RX5 42 "TellingRows$Item" "beginnings" "LTellingRows$Sequence;" "TellingRows",
  .fieldLinkNest RX2 43 "TellingRows$Row" "beginnings" "LTellingRows$Sequence;" "TellingRows",
  .fieldLinkNest RX10 117 "TellingRows$Row" "beginnings" "LTellingRows$Sequence;" "TellingRows",
  .fieldLinkNest RX2 30 "TellingRows$Row" "numbers" "[I" "TellingRows",
  .fieldLinkNest RX2 35 "TellingRows$Row" "sort" "LTellingRows$Sort;" "TellingRows",
  .fieldLinkNest RX10 107 "TellingRows$Row" "sort" "LTellingRows$Sort;" "TellingRows",
  .fieldLinkNest RX2 65 "TellingRows$Row" "made" "Z" "TellingRows",
  .fieldLinkNest RX10 202 "TellingRows$Row" "made" "Z" "TellingRows",
  .fieldLinkNest RX2 61 "TellingRows$Row" "length" "I" "TellingRows",
  .fieldLinkNest RX10 143 "TellingRows$Row" "length" "I" "TellingRows",
  .fieldLinkNest RX1 31 "TellingRows" "SORTS" "[LTellingRows$Sort;" "TellingRows",
  .fieldLinkNest RX10 111 "TellingRows$Sort" "code" "I" "TellingRows",
  .methodLinkNest RX10 17 yX3_init "TellingRows",
  .methodLinkNest RX10 42 yX1_init "TellingRows",
  .methodLinkNest RX10 55 yX8_init "TellingRows",
  .methodLinkNest RX10 69 yX9_init "TellingRows",
  .methodLinkNest RX2 57 yX10_isNumber "TellingRows"]
def NW (U : State) : Prop := va_Nw (.fieldLinkNest RX5 42 "TellingRows$Item" "beginnings" "LTellingRows$Sequence;" "TellingRows") U ∧ va_Nw (.fieldLinkNest RX2 43 "TellingRows$Row" "beginnings" "LTellingRows$Sequence;" "TellingRows") U ∧ va_Nw (.fieldLinkNest RX10 117 "TellingRows$Row" "beginnings" "LTellingRows$Sequence;" "TellingRows") U ∧ va_Nw (.fieldLinkNest RX2 30 "TellingRows$Row" "numbers" "[I" "TellingRows") U ∧ va_Nw (.fieldLinkNest RX2 35 "TellingRows$Row" "sort" "LTellingRows$Sort;" "TellingRows") U ∧ va_Nw (.fieldLinkNest RX10 107 "TellingRows$Row" "sort" "LTellingRows$Sort;" "TellingRows") U ∧ va_Nw (.fieldLinkNest RX2 65 "TellingRows$Row" "made" "Z" "TellingRows") U ∧ va_Nw (.fieldLinkNest RX10 202 "TellingRows$Row" "made" "Z" "TellingRows") U ∧ va_Nw (.fieldLinkNest RX2 61 "TellingRows$Row" "length" "I" "TellingRows") U ∧ va_Nw (.fieldLinkNest RX10 143 "TellingRows$Row" "length" "I" "TellingRows") U ∧ va_Nw (.fieldLinkNest RX1 31 "TellingRows" "SORTS" "[LTellingRows$Sort;" "TellingRows") U ∧ va_Nw (.fieldLinkNest RX10 111 "TellingRows$Sort" "code" "I" "TellingRows") U ∧ va_Nw (.methodLinkNest RX10 17 yX3_init "TellingRows") U ∧ va_Nw (.methodLinkNest RX10 42 yX1_init "TellingRows") U ∧ va_Nw (.methodLinkNest RX10 55 yX8_init "TellingRows") U ∧ va_Nw (.methodLinkNest RX10 69 yX9_init "TellingRows") U ∧ va_Nw (.methodLinkNest RX2 57 yX10_isNumber "TellingRows") U
theorem NW.warm {s U : State} (hW : s.WarmedH U.vm) (h : NW s) : NW U := by
  obtain ⟨h0, h1, h2, h3, h4, h5, h6, h7, h8, h9, h10, h11, h12, h13, h14, h15, h16⟩ := h
  exact ⟨va_Nw.warmF hW h0, va_Nw.warmF hW h1, va_Nw.warmF hW h2, va_Nw.warmF hW h3, va_Nw.warmF hW h4, va_Nw.warmF hW h5, va_Nw.warmF hW h6, va_Nw.warmF hW h7, va_Nw.warmF hW h8, va_Nw.warmF hW h9, va_Nw.warmF hW h10, va_Nw.warmF hW h11, va_Nw.warmM hW h12, va_Nw.warmM hW h13, va_Nw.warmM hW h14, va_Nw.warmM hW h15, va_Nw.warmM hW h16⟩
theorem NW.same {u U : State} (hU : u.vm = U.vm) (h : NW u) : NW U := by
  obtain ⟨h0, h1, h2, h3, h4, h5, h6, h7, h8, h9, h10, h11, h12, h13, h14, h15, h16⟩ := h
  exact ⟨h0.same rfl hU, h1.same rfl hU, h2.same rfl hU, h3.same rfl hU, h4.same rfl hU, h5.same rfl hU, h6.same rfl hU, h7.same rfl hU, h8.same rfl hU, h9.same rfl hU, h10.same rfl hU, h11.same rfl hU, h12.same rfl hU, h13.same rfl hU, h14.same rfl hU, h15.same rfl hU, h16.same rfl hU⟩
theorem nw_f_RX5_42 {U : State} (h : NW U) : va_Nw (.fieldLinkNest RX5 42 "TellingRows$Item" "beginnings" "LTellingRows$Sequence;" "TellingRows") U := h.1
theorem nw_f_RX2_43 {U : State} (h : NW U) : va_Nw (.fieldLinkNest RX2 43 "TellingRows$Row" "beginnings" "LTellingRows$Sequence;" "TellingRows") U := h.2.1
theorem nw_f_RX10_117 {U : State} (h : NW U) : va_Nw (.fieldLinkNest RX10 117 "TellingRows$Row" "beginnings" "LTellingRows$Sequence;" "TellingRows") U := h.2.2.1
theorem nw_f_RX2_30 {U : State} (h : NW U) : va_Nw (.fieldLinkNest RX2 30 "TellingRows$Row" "numbers" "[I" "TellingRows") U := h.2.2.2.1
theorem nw_f_RX2_35 {U : State} (h : NW U) : va_Nw (.fieldLinkNest RX2 35 "TellingRows$Row" "sort" "LTellingRows$Sort;" "TellingRows") U := h.2.2.2.2.1
theorem nw_f_RX10_107 {U : State} (h : NW U) : va_Nw (.fieldLinkNest RX10 107 "TellingRows$Row" "sort" "LTellingRows$Sort;" "TellingRows") U := h.2.2.2.2.2.1
theorem nw_f_RX2_65 {U : State} (h : NW U) : va_Nw (.fieldLinkNest RX2 65 "TellingRows$Row" "made" "Z" "TellingRows") U := h.2.2.2.2.2.2.1
theorem nw_f_RX10_202 {U : State} (h : NW U) : va_Nw (.fieldLinkNest RX10 202 "TellingRows$Row" "made" "Z" "TellingRows") U := h.2.2.2.2.2.2.2.1
theorem nw_f_RX2_61 {U : State} (h : NW U) : va_Nw (.fieldLinkNest RX2 61 "TellingRows$Row" "length" "I" "TellingRows") U := h.2.2.2.2.2.2.2.2.1
theorem nw_f_RX10_143 {U : State} (h : NW U) : va_Nw (.fieldLinkNest RX10 143 "TellingRows$Row" "length" "I" "TellingRows") U := h.2.2.2.2.2.2.2.2.2.1
theorem nw_f_RX1_31 {U : State} (h : NW U) : va_Nw (.fieldLinkNest RX1 31 "TellingRows" "SORTS" "[LTellingRows$Sort;" "TellingRows") U := h.2.2.2.2.2.2.2.2.2.2.1
theorem nw_f_RX10_111 {U : State} (h : NW U) : va_Nw (.fieldLinkNest RX10 111 "TellingRows$Sort" "code" "I" "TellingRows") U := h.2.2.2.2.2.2.2.2.2.2.2.1
theorem nw_m_RX10_17 {U : State} (h : NW U) : va_Nw (.methodLinkNest RX10 17 yX3_init "TellingRows") U := h.2.2.2.2.2.2.2.2.2.2.2.2.1
theorem nw_m_RX10_42 {U : State} (h : NW U) : va_Nw (.methodLinkNest RX10 42 yX1_init "TellingRows") U := h.2.2.2.2.2.2.2.2.2.2.2.2.2.1
theorem nw_m_RX10_55 {U : State} (h : NW U) : va_Nw (.methodLinkNest RX10 55 yX8_init "TellingRows") U := h.2.2.2.2.2.2.2.2.2.2.2.2.2.2.1
theorem nw_m_RX10_69 {U : State} (h : NW U) : va_Nw (.methodLinkNest RX10 69 yX9_init "TellingRows") U := h.2.2.2.2.2.2.2.2.2.2.2.2.2.2.2.1
theorem nw_m_RX2_57 {U : State} (h : NW U) : va_Nw (.methodLinkNest RX2 57 yX10_isNumber "TellingRows") U := h.2.2.2.2.2.2.2.2.2.2.2.2.2.2.2.2
abbrev nmS : List String := ["REACH", "FOLD", "BACK", "AGAIN", "SUMS", "SO_FAR", "FREE"]
abbrev flS : List (String × String × String × List Int32) := [("java/lang/Enum", "ordinal", "I", [0, 1, 2, 3, 4, 5, 6]), (RX7, "code", "I", [0, 1, 2, 3, 4, 5, 6]), (RX7, "fewest", "I", [2, 2, 1, 1, 2, 1, 0]), (RX7, "most", "I", [6, 6, 6, 6, 2, 6, 6]), (RX7, "lowest", "I", [1, 1, 0, 1, 1, 0, 0]), (RX7, "highest", "I", [9, 9, 99, 9, 20, 9, 99])]
def KG (G : GG) (A : Nat → Prop) (U : State) (H : Heap) : Prop := va_K G.1 vwCl (tysG G) U ∧ NW U ∧ va_En RX7 "LTellingRows$Sort;" nmS flS G.2.2 A U H ∧
  (va_Z RX10 "SORTS" "[LTellingRows$Sort;" (.ref (G.2.2 7)) A U H ∧ va_T (.object RX7) (G.2.2 7) 7 (fun j => .ref (G.2.2 j)) A U H) ∧
  (va_Z RX0 "$SwitchMap$TellingRows$Sort" "[I" (.ref (G.2.2 8)) A U H ∧ va_T .int (G.2.2 8) 7 (fun j => .int (iI (j + 1))) A U H)
theorem KG.blind {G : GG} {A : Nat → Prop} {U U' : State} (hv : U.vm = U'.vm) (h : KG G A U U.heap) (hh : U'.heap = U.heap) : KG G A U' U'.heap := by
  obtain ⟨h1, h2, h3, ⟨h4, h5⟩, h6, h7⟩ := h
  have ha : U.vm.Alike U'.vm := by rw [← hv]; exact Vm.Alike.refl U.vm
  rw [hh]
  exact ⟨h1.moved ha, h2.same hv, h3.moved ha, ⟨h4.moved ha, h5.moved ha⟩, h6.moved ha, h7.moved ha⟩
theorem KG.call {G : GG} {A B : Nat → Prop} {s U : State} {H : Heap} {locs : List Loc} (h : KG G A s s.heap) (hS : va_S A s.heap H locs) (hAB : ∀ q, B q → A q) (hW : s.WarmedH U.vm) (hU : U.heap = H) : KG G B U U.heap := by
  obtain ⟨h1, h2, h3, ⟨h4, h5⟩, h6, h7⟩ := h
  have hk : ∀ a : Nat, a < s.heap.size → ¬ A a → H[a]? = s.heap[a]? := fun a q1 q2 => hS.2.1 a q1 q2
  rw [hU]
  exact ⟨h1.moved hW.alike, h2.warm hW, ((h3.kept hk).narrow hAB).moved hW.alike, ⟨((h4.kept hk).narrow hAB).moved hW.alike, ((h5.kept hk).narrow hAB).moved hW.alike⟩, ((h6.kept hk).narrow hAB).moved hW.alike, ((h7.kept hk).narrow hAB).moved hW.alike⟩
/-- the world as the walk has it: the cells, apart and free to write, all else as at the start -/
def Wd (G : GG) (A : Nat → Prop) (H0 : Heap) (ws : va_W) (H : Heap) (locs : List Loc) : Prop := va_P G.1 vwCl ws H ∧ va_D A ws ∧ va_S A H0 H locs
/-- a method's start: its arguments, its cells, what is known -/
def zPre (G : GG) (av : List Value) (w : va_W) (sz : Nat) : Array Value → State → Prop := va_Pc av (fun U => U.heap.size = sz ∧ va_P G.1 vwCl w U.heap ∧ KG G (va_A w sz) U U.heap ∧ va_D (fun _ => True) w)
/-- a method's end: what it answers, its cells anew, nothing else written -/
def zQ {S : Type} (G : GG) (A : Nat → Prop) (post : Option Value → S → Prop) (w' : S → va_W) : Array Value → State → Outcome → State → Prop := fun _ st oc t => (∃ (r : Option Value) (u : S), oc = .returned r ∧ post r u ∧ va_P G.1 vwCl (w' u) t.heap) ∧ va_F A st t
/-- the end of a method that writes nothing -/
def zR (post : Option Value → Prop) : Array Value → State → Outcome → State → Prop := fun _ st oc t => ∃ r : Option Value, oc = .returned r ∧ post r ∧ t.heap = st.heap
/-- room by levels -/
abbrev rmL (n : Nat) : Room := { frames := n, cells := 0, slots := 0, locals := 64 * n }
/-- a method's contract: what it answers, its cells anew -/
def MQc (l : Launch) (y : MethodName) (ws : List Cond) (lev : Nat) (G : GG) (av : List Value) (w : va_W) {S : Type} (post : Option Value → S → Prop) (w' : S → va_W) : Prop := ∀ sz : Nat, Met l y ws (rmL lev) (zPre G av w sz) (zQ G (va_A w sz) post w') 0 0 (va_A w sz)
/-- the same of a method that writes nothing -/
def MRc (l : Launch) (y : MethodName) (ws : List Cond) (lev : Nat) (G : GG) (av : List Value) (w : va_W) (post : Option Value → Prop) : Prop := ∀ sz : Nat, Met l y ws (rmL lev) (zPre G av w sz) (zR post) 0 0 (fun _ => False)
theorem zPre.blind {G : GG} {av : List Value} {w : va_W} {sz : Nat} : FrameBlind (zPre G av w sz) := fun a U g mk q => by
  obtain ⟨q1, q2, q3, q4, q5⟩ := q
  exact ⟨q1, q2, q3, KG.blind (U := U) rfl q4 rfl, q5⟩
end
section
theorem va_P.of_map {D : va_G} {cl : List vw_C} {ws wc : va_W} {H : Heap} (h : va_P D cl ws H) (is : List Nat) (hC : is.map (fun i => ws[i]?) = wc.map some) : va_P D cl wc H := by
  intro k q hq
  have h2 := congrArg (fun l => l[k]?) hC
  simp only [List.getElem?_map, hq, Option.map_some] at h2
  cases hi : is[k]? with
  | none => rw [hi] at h2; cases h2
  | some i =>
    rw [hi] at h2
    exact h i q (by simpa using h2)
/-! rows of the walk, over CallFix and Wd -/
section ZR
variable {p : Program} {l : Launch} {e : Env} {R : Room} {s : State} {m : MethodId} {args : Array Value} {below : List Frame} {meth : Method} {c : Code} {H : Heap} {locs : List Loc} {cells slots : Nat} {Q : State → Prop} {cc : ByteArray} {nL : Nat} {Ts : List Cond} {own : String} {G : GG} {A : Nat → Prop} {H0 : Heap} {ws : va_W} {pc : Nat} {ls : Array Slot} {rest : List Value} {a : Nat}
theorem z_iadd (C : CallFix p m c cc nL s args Ts own) {x y : Int} (hdg : decode cc pc = .ok (.iadd, 1)) (k : W p l e R s m args below meth c H locs cells slots Q (F0 m (pc + 1) ls (.int (iI (x + y)) :: rest))) : W p l e R s m args below meth c H locs cells slots Q (F0 m pc ls (.int (iI y) :: .int (iI x) :: rest)) := lv_iadd C.1 C.2.1 hdg (by rw [iI_add]; exact k)
theorem z_isub (C : CallFix p m c cc nL s args Ts own) {x y : Int} (hdg : decode cc pc = .ok (.isub, 1)) (k : W p l e R s m args below meth c H locs cells slots Q (F0 m (pc + 1) ls (.int (iI (x - y)) :: rest))) : W p l e R s m args below meth c H locs cells slots Q (F0 m pc ls (.int (iI y) :: .int (iI x) :: rest)) := lv_isub C.1 C.2.1 hdg (by rw [iI_sub]; exact k)
theorem z_imul (C : CallFix p m c cc nL s args Ts own) {x y : Int} (hdg : decode cc pc = .ok (.imul, 1)) (k : W p l e R s m args below meth c H locs cells slots Q (F0 m (pc + 1) ls (.int (iI (x * y)) :: rest))) : W p l e R s m args below meth c H locs cells slots Q (F0 m pc ls (.int (iI y) :: .int (iI x) :: rest)) := lv_imul C.1 C.2.1 hdg (by rw [iI_mul]; exact k)
theorem iI_div {a b : Int} (h : (0 ≤ a ∧ a ≤ 2147483647) ∧ (0 < b ∧ b ≤ 2147483647)) : iI a / iI b = iI (a / b) := by
  have e1 : Int32.minValue.toInt = -2147483648 := by decide
  have e2 : Int32.maxValue.toInt = 2147483647 := by decide
  unfold iI
  rw [← Int32.ofInt_tdiv (by omega) (by omega) (by omega) (by omega), Int.tdiv_eq_ediv_of_nonneg h.1.1]
theorem z_idiv (C : CallFix p m c cc nL s args Ts own) {x y : Int} (hdg : decode cc pc = .ok (.idiv, 1)) (hb : (0 ≤ x ∧ x ≤ 2147483647) ∧ (0 < y ∧ y ≤ 2147483647)) (k : W p l e R s m args below meth c H locs cells slots Q (F0 m (pc + 1) ls (.int (iI (x / y)) :: rest))) : W p l e R s m args below meth c H locs cells slots Q (F0 m pc ls (.int (iI y) :: .int (iI x) :: rest)) :=
  lv_idiv C.1 C.2.1 hdg (fun z => by rw [← iI_0, iI_eq ⟨by omega, by omega⟩] at z; omega) (by rw [iI_div hb]; exact k)
theorem z_irem (C : CallFix p m c cc nL s args Ts own) {x y : Int} (hdg : decode cc pc = .ok (.irem, 1)) (hb : (0 ≤ x ∧ x ≤ 2147483647) ∧ (0 < y ∧ y ≤ 2147483647)) (k : W p l e R s m args below meth c H locs cells slots Q (F0 m (pc + 1) ls (.int (iI (x % y)) :: rest))) : W p l e R s m args below meth c H locs cells slots Q (F0 m pc ls (.int (iI y) :: .int (iI x) :: rest)) :=
  lv_irem C.1 C.2.1 hdg (fun z => by rw [← iI_0, iI_eq ⟨by omega, by omega⟩] at z; omega) (by rw [iI_div hb, iI_mul, iI_sub, show x - x / y * y = x % y by rw [Int.emod_def, Int.mul_comm]]; exact k)
theorem z_icmp_eq (C : CallFix p m c cc nL s args Ts own) {x y : Int} {off : Int} {tgt : Nat} (hdg : decode cc pc = .ok (.if_icmp .eq off, 3)) (ht : (pc : Int) + off = (tgt : Int)) (hb : ((-2147483648 ≤ x ∧ x ≤ 2147483647) ∧ (-2147483648 ≤ y ∧ y ≤ 2147483647))) (kt : x = y → W p l e R s m args below meth c H locs cells slots Q (F0 m tgt ls rest)) (kf : x ≠ y → W p l e R s m args below meth c H locs cells slots Q (F0 m (pc + 3) ls rest)) : W p l e R s m args below meth c H locs cells slots Q (F0 m pc ls (.int (iI y) :: .int (iI x) :: rest)) := by
  exact lv_icmp_eq C.1 C.2.1 hdg ht (fun h => kt ((iI_eq hb).mp h)) (fun h => kf (fun z => h ((iI_eq hb).mpr z)))
theorem z_if_eq (C : CallFix p m c cc nL s args Ts own) {x : Int} {off : Int} {tgt : Nat} (hdg : decode cc pc = .ok (.ifCond .eq off, 3)) (ht : (pc : Int) + off = (tgt : Int)) (hb : (-2147483648 ≤ x ∧ x ≤ 2147483647)) (kt : x = 0 → W p l e R s m args below meth c H locs cells slots Q (F0 m tgt ls rest)) (kf : x ≠ 0 → W p l e R s m args below meth c H locs cells slots Q (F0 m (pc + 3) ls rest)) : W p l e R s m args below meth c H locs cells slots Q (F0 m pc ls (.int (iI x) :: rest)) := by
  have hb : ((-2147483648 ≤ x ∧ x ≤ 2147483647) ∧ ((-2147483648 : Int) ≤ 0 ∧ (0 : Int) ≤ 2147483647)) := ⟨hb, by omega⟩
  exact lv_if_eq C.1 C.2.1 hdg ht (fun h => kt ((iI_eq hb).mp h)) (fun h => kf (fun z => h ((iI_eq hb).mpr z)))
theorem z_icmp_ne (C : CallFix p m c cc nL s args Ts own) {x y : Int} {off : Int} {tgt : Nat} (hdg : decode cc pc = .ok (.if_icmp .ne off, 3)) (ht : (pc : Int) + off = (tgt : Int)) (hb : ((-2147483648 ≤ x ∧ x ≤ 2147483647) ∧ (-2147483648 ≤ y ∧ y ≤ 2147483647))) (kt : x ≠ y → W p l e R s m args below meth c H locs cells slots Q (F0 m tgt ls rest)) (kf : x = y → W p l e R s m args below meth c H locs cells slots Q (F0 m (pc + 3) ls rest)) : W p l e R s m args below meth c H locs cells slots Q (F0 m pc ls (.int (iI y) :: .int (iI x) :: rest)) := by
  exact lv_icmp_ne C.1 C.2.1 hdg ht (fun h => kt (fun z => h ((iI_eq hb).mpr z))) (fun h => kf ((iI_eq hb).mp h))
theorem z_if_ne (C : CallFix p m c cc nL s args Ts own) {x : Int} {off : Int} {tgt : Nat} (hdg : decode cc pc = .ok (.ifCond .ne off, 3)) (ht : (pc : Int) + off = (tgt : Int)) (hb : (-2147483648 ≤ x ∧ x ≤ 2147483647)) (kt : x ≠ 0 → W p l e R s m args below meth c H locs cells slots Q (F0 m tgt ls rest)) (kf : x = 0 → W p l e R s m args below meth c H locs cells slots Q (F0 m (pc + 3) ls rest)) : W p l e R s m args below meth c H locs cells slots Q (F0 m pc ls (.int (iI x) :: rest)) := by
  have hb : ((-2147483648 ≤ x ∧ x ≤ 2147483647) ∧ ((-2147483648 : Int) ≤ 0 ∧ (0 : Int) ≤ 2147483647)) := ⟨hb, by omega⟩
  exact lv_if_ne C.1 C.2.1 hdg ht (fun h => kt (fun z => h ((iI_eq hb).mpr z))) (fun h => kf ((iI_eq hb).mp h))
theorem z_icmp_lt (C : CallFix p m c cc nL s args Ts own) {x y : Int} {off : Int} {tgt : Nat} (hdg : decode cc pc = .ok (.if_icmp .lt off, 3)) (ht : (pc : Int) + off = (tgt : Int)) (hb : ((-2147483648 ≤ x ∧ x ≤ 2147483647) ∧ (-2147483648 ≤ y ∧ y ≤ 2147483647))) (kt : x < y → W p l e R s m args below meth c H locs cells slots Q (F0 m tgt ls rest)) (kf : y ≤ x → W p l e R s m args below meth c H locs cells slots Q (F0 m (pc + 3) ls rest)) : W p l e R s m args below meth c H locs cells slots Q (F0 m pc ls (.int (iI y) :: .int (iI x) :: rest)) := by
  exact lv_icmp_lt C.1 C.2.1 hdg ht (fun h => kt ((iI_lt hb).mp h)) (fun h => kf (Int.not_lt.mp (fun z => h ((iI_lt hb).mpr z))))
theorem z_if_lt (C : CallFix p m c cc nL s args Ts own) {x : Int} {off : Int} {tgt : Nat} (hdg : decode cc pc = .ok (.ifCond .lt off, 3)) (ht : (pc : Int) + off = (tgt : Int)) (hb : (-2147483648 ≤ x ∧ x ≤ 2147483647)) (kt : x < 0 → W p l e R s m args below meth c H locs cells slots Q (F0 m tgt ls rest)) (kf : 0 ≤ x → W p l e R s m args below meth c H locs cells slots Q (F0 m (pc + 3) ls rest)) : W p l e R s m args below meth c H locs cells slots Q (F0 m pc ls (.int (iI x) :: rest)) := by
  have hb : ((-2147483648 ≤ x ∧ x ≤ 2147483647) ∧ ((-2147483648 : Int) ≤ 0 ∧ (0 : Int) ≤ 2147483647)) := ⟨hb, by omega⟩
  exact lv_if_lt C.1 C.2.1 hdg ht (fun h => kt ((iI_lt hb).mp h)) (fun h => kf (Int.not_lt.mp (fun z => h ((iI_lt hb).mpr z))))
theorem z_icmp_ge (C : CallFix p m c cc nL s args Ts own) {x y : Int} {off : Int} {tgt : Nat} (hdg : decode cc pc = .ok (.if_icmp .ge off, 3)) (ht : (pc : Int) + off = (tgt : Int)) (hb : ((-2147483648 ≤ x ∧ x ≤ 2147483647) ∧ (-2147483648 ≤ y ∧ y ≤ 2147483647))) (kt : y ≤ x → W p l e R s m args below meth c H locs cells slots Q (F0 m tgt ls rest)) (kf : x < y → W p l e R s m args below meth c H locs cells slots Q (F0 m (pc + 3) ls rest)) : W p l e R s m args below meth c H locs cells slots Q (F0 m pc ls (.int (iI y) :: .int (iI x) :: rest)) := by
  exact lv_icmp_ge C.1 C.2.1 hdg ht (fun h => kt ((iI_le ⟨hb.2, hb.1⟩).mp h)) (fun h => kf (Int.not_le.mp (fun z => h ((iI_le ⟨hb.2, hb.1⟩).mpr z))))
theorem z_if_ge (C : CallFix p m c cc nL s args Ts own) {x : Int} {off : Int} {tgt : Nat} (hdg : decode cc pc = .ok (.ifCond .ge off, 3)) (ht : (pc : Int) + off = (tgt : Int)) (hb : (-2147483648 ≤ x ∧ x ≤ 2147483647)) (kt : 0 ≤ x → W p l e R s m args below meth c H locs cells slots Q (F0 m tgt ls rest)) (kf : x < 0 → W p l e R s m args below meth c H locs cells slots Q (F0 m (pc + 3) ls rest)) : W p l e R s m args below meth c H locs cells slots Q (F0 m pc ls (.int (iI x) :: rest)) := by
  have hb : ((-2147483648 ≤ x ∧ x ≤ 2147483647) ∧ ((-2147483648 : Int) ≤ 0 ∧ (0 : Int) ≤ 2147483647)) := ⟨hb, by omega⟩
  exact lv_if_ge C.1 C.2.1 hdg ht (fun h => kt ((iI_le ⟨hb.2, hb.1⟩).mp h)) (fun h => kf (Int.not_le.mp (fun z => h ((iI_le ⟨hb.2, hb.1⟩).mpr z))))
theorem z_icmp_gt (C : CallFix p m c cc nL s args Ts own) {x y : Int} {off : Int} {tgt : Nat} (hdg : decode cc pc = .ok (.if_icmp .gt off, 3)) (ht : (pc : Int) + off = (tgt : Int)) (hb : ((-2147483648 ≤ x ∧ x ≤ 2147483647) ∧ (-2147483648 ≤ y ∧ y ≤ 2147483647))) (kt : y < x → W p l e R s m args below meth c H locs cells slots Q (F0 m tgt ls rest)) (kf : x ≤ y → W p l e R s m args below meth c H locs cells slots Q (F0 m (pc + 3) ls rest)) : W p l e R s m args below meth c H locs cells slots Q (F0 m pc ls (.int (iI y) :: .int (iI x) :: rest)) := by
  exact lv_icmp_gt C.1 C.2.1 hdg ht (fun h => kt ((iI_lt ⟨hb.2, hb.1⟩).mp h)) (fun h => kf (Int.not_lt.mp (fun z => h ((iI_lt ⟨hb.2, hb.1⟩).mpr z))))
theorem z_if_gt (C : CallFix p m c cc nL s args Ts own) {x : Int} {off : Int} {tgt : Nat} (hdg : decode cc pc = .ok (.ifCond .gt off, 3)) (ht : (pc : Int) + off = (tgt : Int)) (hb : (-2147483648 ≤ x ∧ x ≤ 2147483647)) (kt : 0 < x → W p l e R s m args below meth c H locs cells slots Q (F0 m tgt ls rest)) (kf : x ≤ 0 → W p l e R s m args below meth c H locs cells slots Q (F0 m (pc + 3) ls rest)) : W p l e R s m args below meth c H locs cells slots Q (F0 m pc ls (.int (iI x) :: rest)) := by
  have hb : ((-2147483648 ≤ x ∧ x ≤ 2147483647) ∧ ((-2147483648 : Int) ≤ 0 ∧ (0 : Int) ≤ 2147483647)) := ⟨hb, by omega⟩
  exact lv_if_gt C.1 C.2.1 hdg ht (fun h => kt ((iI_lt ⟨hb.2, hb.1⟩).mp h)) (fun h => kf (Int.not_lt.mp (fun z => h ((iI_lt ⟨hb.2, hb.1⟩).mpr z))))
theorem z_icmp_le (C : CallFix p m c cc nL s args Ts own) {x y : Int} {off : Int} {tgt : Nat} (hdg : decode cc pc = .ok (.if_icmp .le off, 3)) (ht : (pc : Int) + off = (tgt : Int)) (hb : ((-2147483648 ≤ x ∧ x ≤ 2147483647) ∧ (-2147483648 ≤ y ∧ y ≤ 2147483647))) (kt : x ≤ y → W p l e R s m args below meth c H locs cells slots Q (F0 m tgt ls rest)) (kf : y < x → W p l e R s m args below meth c H locs cells slots Q (F0 m (pc + 3) ls rest)) : W p l e R s m args below meth c H locs cells slots Q (F0 m pc ls (.int (iI y) :: .int (iI x) :: rest)) := by
  exact lv_icmp_le C.1 C.2.1 hdg ht (fun h => kt ((iI_le hb).mp h)) (fun h => kf (Int.not_le.mp (fun z => h ((iI_le hb).mpr z))))
theorem z_if_le (C : CallFix p m c cc nL s args Ts own) {x : Int} {off : Int} {tgt : Nat} (hdg : decode cc pc = .ok (.ifCond .le off, 3)) (ht : (pc : Int) + off = (tgt : Int)) (hb : (-2147483648 ≤ x ∧ x ≤ 2147483647)) (kt : x ≤ 0 → W p l e R s m args below meth c H locs cells slots Q (F0 m tgt ls rest)) (kf : 0 < x → W p l e R s m args below meth c H locs cells slots Q (F0 m (pc + 3) ls rest)) : W p l e R s m args below meth c H locs cells slots Q (F0 m pc ls (.int (iI x) :: rest)) := by
  have hb : ((-2147483648 ≤ x ∧ x ≤ 2147483647) ∧ ((-2147483648 : Int) ≤ 0 ∧ (0 : Int) ≤ 2147483647)) := ⟨hb, by omega⟩
  exact lv_if_le C.1 C.2.1 hdg ht (fun h => kt ((iI_le hb).mp h)) (fun h => kf (Int.not_le.mp (fun z => h ((iI_le hb).mpr z))))
def lI (z : Int) : Int64 := Int64.ofInt z
theorem lI_toInt {z : Int} (h1 : -9223372036854775808 ≤ z) (h2 : z ≤ 9223372036854775807) : (lI z).toInt = z := Int64.toInt_ofInt_of_le (by omega) (by omega)
theorem lI_of {z : Int} (h : -2147483648 ≤ z ∧ z ≤ 2147483647) : (iI z).toInt64 = lI z := by
  apply Int64.toInt_inj.mp
  rw [Int32.toInt_toInt64, iI_toInt h.1 h.2, lI_toInt (by omega) (by omega)]
theorem lI_add (a b : Int) : lI a + lI b = lI (a + b) := (Int64.ofInt_add a b).symm
theorem lI_mul (a b : Int) : lI a * lI b = lI (a * b) := (Int64.ofInt_mul a b).symm
theorem z_i2l (C : CallFix p m c cc nL s args Ts own) {x : Int} (hdg : decode cc pc = .ok (.i2l, 1)) (hb : (-2147483648 ≤ x ∧ x ≤ 2147483647)) (k : W p l e R s m args below meth c H locs cells slots Q (F0 m (pc + 1) ls (.long (lI x) :: rest))) : W p l e R s m args below meth c H locs cells slots Q (F0 m pc ls (.int (iI x) :: rest)) := lv_i2l C.1 C.2.1 hdg (lI_of hb) k
theorem z_lcmp_ge (C : CallFix p m c cc nL s args Ts own) {x y : Int} {off : Int} {tgt : Nat} (hdg0 : decode cc pc = .ok (.lcmp, 1)) (hdg : decode cc (pc + 1) = .ok (.ifCond .ge off, 3)) (ht : ((pc + 1 : Nat) : Int) + off = (tgt : Int)) (hb : ((-9223372036854775808 ≤ x ∧ x ≤ 9223372036854775807) ∧ (-9223372036854775808 ≤ y ∧ y ≤ 9223372036854775807))) (kt : y ≤ x → W p l e R s m args below meth c H locs cells slots Q (F0 m tgt ls rest)) (kf : x < y → W p l e R s m args below meth c H locs cells slots Q (F0 m (pc + 1 + 3) ls rest)) : W p l e R s m args below meth c H locs cells slots Q (F0 m pc ls (.long (lI y) :: .long (lI x) :: rest)) := by
  have hiff : ∀ P : Prop, ((lI x).toInt = x → (lI y).toInt = y → P) → P := fun P h => h (lI_toInt hb.1.1 hb.1.2) (lI_toInt hb.2.1 hb.2.2)
  refine W.lcmp C.1 C.2.1 hdg0 (lv_if_ge C.1 C.2.1 hdg ht (fun h => kt ?_) (fun h => kf ?_))
  · have h := (lg_cmp_ge _ _).mp h
    rw [Int64.le_iff_toInt_le, lI_toInt hb.1.1 hb.1.2, lI_toInt hb.2.1 hb.2.2] at h
    exact h
  · have h : ¬ _ := fun z => h ((lg_cmp_ge _ _).mpr z)
    rw [Int64.le_iff_toInt_le, lI_toInt hb.1.1 hb.1.2, lI_toInt hb.2.1 hb.2.2] at h
    exact Int.not_le.mp h
theorem z_lcmp_le (C : CallFix p m c cc nL s args Ts own) {x y : Int} {off : Int} {tgt : Nat} (hdg0 : decode cc pc = .ok (.lcmp, 1)) (hdg : decode cc (pc + 1) = .ok (.ifCond .le off, 3)) (ht : ((pc + 1 : Nat) : Int) + off = (tgt : Int)) (hb : ((-9223372036854775808 ≤ x ∧ x ≤ 9223372036854775807) ∧ (-9223372036854775808 ≤ y ∧ y ≤ 9223372036854775807))) (kt : x ≤ y → W p l e R s m args below meth c H locs cells slots Q (F0 m tgt ls rest)) (kf : y < x → W p l e R s m args below meth c H locs cells slots Q (F0 m (pc + 1 + 3) ls rest)) : W p l e R s m args below meth c H locs cells slots Q (F0 m pc ls (.long (lI y) :: .long (lI x) :: rest)) := by
  have hiff : ∀ P : Prop, ((lI x).toInt = x → (lI y).toInt = y → P) → P := fun P h => h (lI_toInt hb.1.1 hb.1.2) (lI_toInt hb.2.1 hb.2.2)
  refine W.lcmp C.1 C.2.1 hdg0 (lv_if_le C.1 C.2.1 hdg ht (fun h => kt ?_) (fun h => kf ?_))
  · have h := (lg_cmp_le _ _).mp h
    rw [Int64.le_iff_toInt_le, lI_toInt hb.1.1 hb.1.2, lI_toInt hb.2.1 hb.2.2] at h
    exact h
  · have h : ¬ _ := fun z => h ((lg_cmp_le _ _).mpr z)
    rw [Int64.le_iff_toInt_le, lI_toInt hb.1.1 hb.1.2, lI_toInt hb.2.1 hb.2.2] at h
    exact Int.not_le.mp h
theorem z_lcmp_gt (C : CallFix p m c cc nL s args Ts own) {x y : Int} {off : Int} {tgt : Nat} (hdg0 : decode cc pc = .ok (.lcmp, 1)) (hdg : decode cc (pc + 1) = .ok (.ifCond .gt off, 3)) (ht : ((pc + 1 : Nat) : Int) + off = (tgt : Int)) (hb : ((-9223372036854775808 ≤ x ∧ x ≤ 9223372036854775807) ∧ (-9223372036854775808 ≤ y ∧ y ≤ 9223372036854775807))) (kt : y < x → W p l e R s m args below meth c H locs cells slots Q (F0 m tgt ls rest)) (kf : x ≤ y → W p l e R s m args below meth c H locs cells slots Q (F0 m (pc + 1 + 3) ls rest)) : W p l e R s m args below meth c H locs cells slots Q (F0 m pc ls (.long (lI y) :: .long (lI x) :: rest)) := by
  have hiff : ∀ P : Prop, ((lI x).toInt = x → (lI y).toInt = y → P) → P := fun P h => h (lI_toInt hb.1.1 hb.1.2) (lI_toInt hb.2.1 hb.2.2)
  refine W.lcmp C.1 C.2.1 hdg0 (lv_if_gt C.1 C.2.1 hdg ht (fun h => kt ?_) (fun h => kf ?_))
  · have h := (lg_cmp_gt _ _).mp h
    rw [Int64.lt_iff_toInt_lt, lI_toInt hb.1.1 hb.1.2, lI_toInt hb.2.1 hb.2.2] at h
    exact h
  · have h : ¬ _ := fun z => h ((lg_cmp_gt _ _).mpr z)
    rw [Int64.lt_iff_toInt_lt, lI_toInt hb.1.1 hb.1.2, lI_toInt hb.2.1 hb.2.2] at h
    exact Int.not_lt.mp h
theorem z_lcmp_lt (C : CallFix p m c cc nL s args Ts own) {x y : Int} {off : Int} {tgt : Nat} (hdg0 : decode cc pc = .ok (.lcmp, 1)) (hdg : decode cc (pc + 1) = .ok (.ifCond .lt off, 3)) (ht : ((pc + 1 : Nat) : Int) + off = (tgt : Int)) (hb : ((-9223372036854775808 ≤ x ∧ x ≤ 9223372036854775807) ∧ (-9223372036854775808 ≤ y ∧ y ≤ 9223372036854775807))) (kt : x < y → W p l e R s m args below meth c H locs cells slots Q (F0 m tgt ls rest)) (kf : y ≤ x → W p l e R s m args below meth c H locs cells slots Q (F0 m (pc + 1 + 3) ls rest)) : W p l e R s m args below meth c H locs cells slots Q (F0 m pc ls (.long (lI y) :: .long (lI x) :: rest)) := by
  have hiff : ∀ P : Prop, ((lI x).toInt = x → (lI y).toInt = y → P) → P := fun P h => h (lI_toInt hb.1.1 hb.1.2) (lI_toInt hb.2.1 hb.2.2)
  refine W.lcmp C.1 C.2.1 hdg0 (lv_if_lt C.1 C.2.1 hdg ht (fun h => kt ?_) (fun h => kf ?_))
  · have h := (lg_cmp_lt _ _).mp h
    rw [Int64.lt_iff_toInt_lt, lI_toInt hb.1.1 hb.1.2, lI_toInt hb.2.1 hb.2.2] at h
    exact h
  · have h : ¬ _ := fun z => h ((lg_cmp_lt _ _).mpr z)
    rw [Int64.lt_iff_toInt_lt, lI_toInt hb.1.1 hb.1.2, lI_toInt hb.2.1 hb.2.2] at h
    exact Int.not_lt.mp h
theorem z_iald (C : CallFix p m c cc nL s args Ts own) (hK : KG G A s s.heap) (hW : Wd G A H0 ws H locs) (q0 : Nat) {n : Nat} {g : Int → Int} {z : Int} (ha : ws[q0]? = some (a, .inl (G.2.1 0, n, .inl (iA g)))) (hn : n ≤ 2147483647) (hz : 0 ≤ z ∧ z < n) (hdg : decode cc pc = .ok (.iaload, 1)) (k : W p l e R s m args below meth c H locs cells slots Q (F0 m (pc + 1) ls (.int (iI (g z)) :: rest))) : W p l e R s m args below meth c H locs cells slots Q (F0 m pc ls (.int (iI z) :: .ref a :: rest)) :=
  va_iald C.1 C.2.1 hK.1 hW.1 q0 0 ha rfl (iI_in hz hn) hdg (by rw [iA_get g hz.1 (by omega)]; exact k)
theorem z_iast (C : CallFix p m c cc nL s args Ts own) (hK : KG G A s s.heap) (hW : Wd G A H0 ws H locs) (q0 : Nat) {n : Nat} {g : Int → Int} {z x : Int} (ha : ws[q0]? = some (a, .inl (G.2.1 0, n, .inl (iA g)))) (hn : n ≤ 2147483647) (hz : 0 ≤ z ∧ z < n) (hdg : decode cc pc = .ok (.iastore, 1)) (k : ∀ (H1 : Heap) (locs1 : List Loc), Wd G A H0 (ws.set q0 (a, .inl (G.2.1 0, n, .inl (iA (up g z x))))) H1 locs1 → W p l e R s m args below meth c H1 locs1 cells slots Q (F0 m (pc + 1) ls rest)) : W p l e R s m args below meth c H locs cells slots Q (F0 m pc ls (.int (iI x) :: .int (iI z) :: .ref a :: rest)) :=
  va_iast C.1 C.2.1 hK.1 hW.1 hW.2.1 hW.2.2 q0 0 ha rfl (iI_in hz hn) hdg (fun H1 locs1 h1 h2 h3 => k H1 locs1 (by rw [iA_set g x hz.1 (by omega)] at h1 h2; exact ⟨h1, h2, h3⟩))
theorem z_bald (C : CallFix p m c cc nL s args Ts own) (hK : KG G A s s.heap) (hW : Wd G A H0 ws H locs) (q0 : Nat) {n : Nat} {g : Int → Int} {z : Int} (ha : ws[q0]? = some (a, .inl (G.2.1 1, n, .inl (iA g)))) (hn : n ≤ 2147483647) (hz : 0 ≤ z ∧ z < n) (hdg : decode cc pc = .ok (.baload, 1)) (k : W p l e R s m args below meth c H locs cells slots Q (F0 m (pc + 1) ls (.int (iI (g z)) :: rest))) : W p l e R s m args below meth c H locs cells slots Q (F0 m pc ls (.int (iI z) :: .ref a :: rest)) :=
  va_bald C.1 C.2.1 hK.1 hW.1 q0 1 ha rfl (iI_in hz hn) hdg (by rw [iA_get g hz.1 (by omega)]; exact k)
theorem z_bast (C : CallFix p m c cc nL s args Ts own) (hK : KG G A s s.heap) (hW : Wd G A H0 ws H locs) (q0 : Nat) {n : Nat} {g : Int → Int} {z x : Int} (ha : ws[q0]? = some (a, .inl (G.2.1 1, n, .inl (iA g)))) (hn : n ≤ 2147483647) (hz : 0 ≤ z ∧ z < n) (hx : vp_nar .byte (iI x) = iI x) (hdg : decode cc pc = .ok (.bastore, 1)) (k : ∀ (H1 : Heap) (locs1 : List Loc), Wd G A H0 (ws.set q0 (a, .inl (G.2.1 1, n, .inl (iA (up g z x))))) H1 locs1 → W p l e R s m args below meth c H1 locs1 cells slots Q (F0 m (pc + 1) ls rest)) : W p l e R s m args below meth c H locs cells slots Q (F0 m pc ls (.int (iI x) :: .int (iI z) :: .ref a :: rest)) :=
  va_bast C.1 C.2.1 hK.1 hW.1 hW.2.1 hW.2.2 q0 1 ha rfl (iI_in hz hn) hdg (fun H1 locs1 h1 h2 h3 => k H1 locs1 (by rw [hx, iA_set g x hz.1 (by omega)] at h1 h2; exact ⟨h1, h2, h3⟩))
theorem z_alen (C : CallFix p m c cc nL s args Ts own) (hK : KG G A s s.heap) (hW : Wd G A H0 ws H locs) (q0 t0 : Nat) {n : Nat} {x : (Nat → Int32) ⊕ (Nat → Int64) ⊕ (Nat → UInt32) ⊕ (Nat → UInt64) ⊕ (Nat → Option Nat)} {ty : FieldType} (ha : ws[q0]? = some (a, .inl (G.2.1 t0, (n, x)))) (ht : (tysG G)[t0]? = some (G.2.1 t0, ty)) (hdg : decode cc pc = .ok (.arraylength, 1)) (k : W p l e R s m args below meth c H locs cells slots Q (F0 m (pc + 1) ls (.int (iI (n : Int)) :: rest))) : W p l e R s m args below meth c H locs cells slots Q (F0 m pc ls (.ref a :: rest)) :=
  va_alen C.1 C.2.1 hK.1 hW.1 q0 t0 ha ht (iI_ofNat n) hdg k
theorem z_aaldq (C : CallFix p m c cc nL s args Ts own) (hK : KG G A s s.heap) (hW : Wd G A H0 ws H locs) (q0 t0 : Nat) {n : Nat} {f : Nat → Option Nat} {z : Int} {E : String} (ha : ws[q0]? = some (a, .inl (G.2.1 t0, n, .inr (.inr (.inr (.inr f)))))) (ht : (tysG G)[t0]? = some (G.2.1 t0, .object E)) (hn : n ≤ 2147483647) (hz : 0 ≤ z ∧ z < n) (hdg : decode cc pc = .ok (.aaload, 1)) (k : W p l e R s m args below meth c H locs cells slots Q (F0 m (pc + 1) ls (va_rf (f z.toNat) :: rest))) : W p l e R s m args below meth c H locs cells slots Q (F0 m pc ls (.int (iI z) :: .ref a :: rest)) :=
  va_aldq C.1 C.2.1 hK.1 hW.1 q0 t0 ha ht (iI_in hz hn) hdg (by rw [iI_tn hz.1 (by omega)]; exact k)
theorem z_get (C : CallFix p m c cc nL s args Ts own) (hK : KG G A s s.heap) (hW : Wd G A H0 ws H locs) {ref D : String} {T : u_T} {N ci index : Nat} (hin : ∀ w ∈ u_ws D T N, w ∈ Ts) (q0 : Nat) {fs : List Value} (he : ws[q0]? = some (a, .inr (ci, fs))) (hc : vwCl[ci]? = some (D, T, N)) (k : Nat) (hk : k < N) (hlink : (Cond.fieldLink own index ref (T k).2.1 (T k).2.2.1).before args s = true) (hsame : ∀ x, s.fieldFound? (T k).1 (T k).2.1 (T k).2.2.1 = some x → s.fieldFound? ref (T k).2.1 (T k).2.2.1 = some x) {v : Value} (hv : fs[k]? = some v) (hdg : decode cc pc = .ok (.getfield index, 3)) (kk : W p l e R s m args below meth c H locs cells slots Q (F0 m (pc + 3) ls (v :: rest))) : W p l e R s m args below meth c H locs cells slots Q (F0 m pc ls (.ref a :: rest)) :=
  va_get C.1 C.2.1 C.2.2.2.2 hin C.2.2.2.1 hK.1 hW.1 q0 he hc k hk hlink hsame hv hdg kk
theorem z_getN (C : CallFix p m c cc nL s args Ts own) (hK : KG G A s s.heap) (hW : Wd G A H0 ws H locs) {ref D host : String} {T : u_T} {N ci index : Nat} (hin : ∀ w ∈ u_ws D T N, w ∈ Ts) (q0 : Nat) {fs : List Value} (he : ws[q0]? = some (a, .inr (ci, fs))) (hc : vwCl[ci]? = some (D, T, N)) (k : Nat) (hk : k < N) (hlink : va_Nw (.fieldLinkNest own index ref (T k).2.1 (T k).2.2.1 host) s) (hsame : ∀ x, s.fieldFound? (T k).1 (T k).2.1 (T k).2.2.1 = some x → s.fieldFound? ref (T k).2.1 (T k).2.2.1 = some x) {v : Value} (hv : fs[k]? = some v) (hdg : decode cc pc = .ok (.getfield index, 3)) (kk : W p l e R s m args below meth c H locs cells slots Q (F0 m (pc + 3) ls (v :: rest))) : W p l e R s m args below meth c H locs cells slots Q (F0 m pc ls (.ref a :: rest)) :=
  va_getN C.1 C.2.1 C.2.2.2.2 hin C.2.2.2.1 hK.1 hW.1 q0 he hc k hk (va_Nw.use rfl hlink) hsame hv hdg kk
theorem z_put (C : CallFix p m c cc nL s args Ts own) (hK : KG G A s s.heap) (hW : Wd G A H0 ws H locs) {ref D : String} {T : u_T} {N ci index : Nat} (hin : ∀ w ∈ u_ws D T N, w ∈ Ts) (ty0 : Nat → FieldType) (hty : ∀ k, k < N → parseFieldDescriptor (T k).2.2.1 = some (ty0 k)) (hnm : ∀ a, a < N → ∀ b, b < N → a ≠ b → (T a).2.1 ≠ (T b).2.1) (q0 : Nat) {fs : List Value} (he : ws[q0]? = some (a, .inr (ci, fs))) (hc : vwCl[ci]? = some (D, T, N)) (k : Nat) (hk : k < N) (hlink : (Cond.fieldLink own index ref (T k).2.1 (T k).2.2.1).before args s = true) (hsame : ∀ x, s.fieldFound? (T k).1 (T k).2.1 (T k).2.2.1 = some x → s.fieldFound? ref (T k).2.1 (T k).2.2.1 = some x) (hfin : (T k).2.2.2 = false) {v : Value} (hn : narrow (ty0 k) v = v) (hfit : fits (ty0 k) v = true) (hl : k < fs.length) (hdg : decode cc pc = .ok (.putfield index, 3)) (kk : ∀ (H1 : Heap) (locs1 : List Loc), Wd G A H0 (ws.set q0 (a, .inr (ci, fs.set k v))) H1 locs1 → W p l e R s m args below meth c H1 locs1 cells slots Q (F0 m (pc + 3) ls rest)) : W p l e R s m args below meth c H locs cells slots Q (F0 m pc ls (v :: .ref a :: rest)) :=
  va_put C.1 C.2.1 C.2.2.2.2 hin ty0 hty hnm C.2.2.2.1 hK.1 hW.1 hW.2.1 hW.2.2 q0 he hc k hk hlink hsame hfin (hty k hk) hn hfit hl hdg (fun H1 locs1 h1 h2 h3 => kk H1 locs1 ⟨h1, h2, h3⟩)
theorem z_putN (C : CallFix p m c cc nL s args Ts own) (hK : KG G A s s.heap) (hW : Wd G A H0 ws H locs) {ref D host : String} {T : u_T} {N ci index : Nat} (hin : ∀ w ∈ u_ws D T N, w ∈ Ts) (ty0 : Nat → FieldType) (hty : ∀ k, k < N → parseFieldDescriptor (T k).2.2.1 = some (ty0 k)) (hnm : ∀ a, a < N → ∀ b, b < N → a ≠ b → (T a).2.1 ≠ (T b).2.1) (q0 : Nat) {fs : List Value} (he : ws[q0]? = some (a, .inr (ci, fs))) (hc : vwCl[ci]? = some (D, T, N)) (k : Nat) (hk : k < N) (hlink : va_Nw (.fieldLinkNest own index ref (T k).2.1 (T k).2.2.1 host) s) (hsame : ∀ x, s.fieldFound? (T k).1 (T k).2.1 (T k).2.2.1 = some x → s.fieldFound? ref (T k).2.1 (T k).2.2.1 = some x) (hfin : (T k).2.2.2 = false) {v : Value} (hn : narrow (ty0 k) v = v) (hfit : fits (ty0 k) v = true) (hl : k < fs.length) (hdg : decode cc pc = .ok (.putfield index, 3)) (kk : ∀ (H1 : Heap) (locs1 : List Loc), Wd G A H0 (ws.set q0 (a, .inr (ci, fs.set k v))) H1 locs1 → W p l e R s m args below meth c H1 locs1 cells slots Q (F0 m (pc + 3) ls rest)) : W p l e R s m args below meth c H locs cells slots Q (F0 m pc ls (v :: .ref a :: rest)) :=
  va_putN C.1 C.2.1 C.2.2.2.2 hin ty0 hty hnm C.2.2.2.1 hK.1 hW.1 hW.2.1 hW.2.2 q0 he hc k hk (va_Nw.use rfl hlink) hsame hfin (hty k hk) hn hfit hl hdg (fun H1 locs1 h1 h2 h3 => kk H1 locs1 ⟨h1, h2, h3⟩)
theorem z_mmax (C : CallFix p m c cc nL s args Ts own) (hnl : ls.size = nL) {index : Nat} (hlink : (Cond.methodLink own index Lib.Math.max.name).before args s = true) (hstat : (Cond.static Lib.Math.max.name).before args s = true) (hini : (Cond.initialized "java/lang/Math").before args s = true) (hcode : (Cond.code Lib.Math.max.name Lib.Math.max.code 2 (some .int)).before args s = true)
    (hframes : 1 ≤ R.frames) (hlocals : (rest.map fun v => v.category).sum + 13 ≤ R.locals) (hc : cells ≤ R.cells) (hs : slots ≤ R.slots) {x y : Int} (hb : ((-2147483648 ≤ x ∧ x ≤ 2147483647) ∧ (-2147483648 ≤ y ∧ y ≤ 2147483647))) (hdg : decode cc pc = .ok (.invokestatic index, 3)) (kk : W p l e R s m args below meth c H locs cells slots Q (F0 m (pc + 3) ls (.int (iI (max x y)) :: rest))) : W p l e R s m args below meth c H locs cells slots Q (F0 m pc ls (.int (iI y) :: .int (iI x) :: rest)) := by
  refine va_mmax C.1 C.2.1 (C.2.2.1.trans hnl.symm) C.2.2.2.1 hlink hstat hini hcode hframes hlocals hc hs hdg ?_
  by_cases h : x < y
  · rw [if_pos ((iI_lt hb).mpr h)]
    rw [show max x y = y by omega] at kk
    exact kk
  · rw [if_neg (fun z => h ((iI_lt hb).mp z))]
    rw [show max x y = x by omega] at kk
    exact kk
theorem z_mmin (C : CallFix p m c cc nL s args Ts own) (hnl : ls.size = nL) {index : Nat} (hlink : (Cond.methodLink own index Lib.Math.min.name).before args s = true) (hstat : (Cond.static Lib.Math.min.name).before args s = true) (hini : (Cond.initialized "java/lang/Math").before args s = true) (hcode : (Cond.code Lib.Math.min.name Lib.Math.min.code 2 (some .int)).before args s = true)
    (hframes : 1 ≤ R.frames) (hlocals : (rest.map fun v => v.category).sum + 13 ≤ R.locals) (hc : cells ≤ R.cells) (hs : slots ≤ R.slots) {x y : Int} (hb : ((-2147483648 ≤ x ∧ x ≤ 2147483647) ∧ (-2147483648 ≤ y ∧ y ≤ 2147483647))) (hdg : decode cc pc = .ok (.invokestatic index, 3)) (kk : W p l e R s m args below meth c H locs cells slots Q (F0 m (pc + 3) ls (.int (iI (min x y)) :: rest))) : W p l e R s m args below meth c H locs cells slots Q (F0 m pc ls (.int (iI y) :: .int (iI x) :: rest)) := by
  refine va_mmin C.1 C.2.1 (C.2.2.1.trans hnl.symm) C.2.2.2.1 hlink hstat hini hcode hframes hlocals hc hs hdg ?_
  by_cases h : y < x
  · rw [if_pos ((iI_lt ⟨hb.2, hb.1⟩).mpr h)]
    rw [show min x y = y by omega] at kk
    exact kk
  · rw [if_neg (fun z => h ((iI_lt ⟨hb.2, hb.1⟩).mp z))]
    rw [show min x y = x by omega] at kk
    exact kk
theorem z_ldc (C : CallFix p m c cc nL s args Ts own) {index : Nat} {v : Int32} {z : Int} (hconst : (Jvm.Cond.constant own index v).before args s = true) (hv : v = iI z) (hdg : decode cc pc = .ok (.ldc index, 2)) (k : W p l e R s m args below meth c H locs cells slots Q (F0 m (pc + 2) ls (.int (iI z) :: rest))) : W p l e R s m args below meth c H locs cells slots Q (F0 m pc ls rest) := by
  subst hv
  exact W.ldc C.1 C.2.1 C.2.2.2.1 hconst rfl hdg k
theorem z_ldc2 (C : CallFix p m c cc nL s args Ts own) {index : Nat} {v : Int64} {z : Int} (hconst : (Jvm.Cond.constantLong own index v).before args s = true) (hv : v = lI z) (hdg : decode cc pc = .ok (.ldc2_w index, 3)) (k : W p l e R s m args below meth c H locs cells slots Q (F0 m (pc + 3) ls (.long (lI z) :: rest))) : W p l e R s m args below meth c H locs cells slots Q (F0 m pc ls rest) := by
  subst hv
  exact W.ldc2 C.1 C.2.1 C.2.2.2.1 hconst rfl hdg k
theorem z_call {S : Type} {post : Option Value → S → Prop} {w' : S → va_W} {wc : va_W} {av : Array Value} {st0 : List Value} (hr : va_Run p l e R s m args below meth c H locs cells slots 0 0 (F0 m pc ls st0) rest (zQ G (va_A wc H.size) post w' av) (va_A wc H.size)) (hW : Wd G A H0 ws H locs) (hA : ∀ q, H0.size ≤ q → A q) (is : List Nat) (hC : is.map (fun i => ws[i]?) = wc.map some) (hn : va_nd is = true) (ha : ∀ u, (w' u).map Prod.fst = wc.map Prod.fst)
    (kk : ∀ (r : Option Value) (u : S) (H1 : Heap) (locs1 : List Loc), post r u → Wd G A H0 (zv_re ws is (w' u)) H1 locs1 → W p l e R s m args below meth c H1 locs1 cells slots Q (F0 m (pc + 3) ls (r.toList ++ rest))) : W p l e R s m args below meth c H locs cells slots Q (F0 m pc ls st0) := by
  intro T hT X
  obtain ⟨v, st₀, t, T', L, h0, X', hL, e1, e2, ⟨⟨r, u, hv, hp, hb⟩, hz, hk⟩, st⟩ := hr T hT X
  cases hv
  rw [h0] at hz hk
  have hF := va_free hW.2.1 hW.2.2 hA is hC
  have hJ := zv_join hW.1 hW.2.1 is hC hn (ha u) hk hb
  have hS := hW.2.2
  obtain ⟨t2, a1, b1⟩ := kk v u t.heap (locs ++ L) hp ⟨hJ.1, hJ.2, Nat.le_trans hS.1 hz, fun q h1 h2 => by
      rw [hk q (Nat.lt_of_lt_of_le h1 hS.1) (fun z => h2 (hF q z))]
      exact hS.2.1 q h1 h2, fun q hq => by
      rcases List.mem_append.mp hq with h | h
      · exact hS.2.2 q h
      · exact hF _ (hL q h)⟩ T' e1 X'
  exact ⟨t2, st t2 a1, b1⟩
theorem z_callR {post : Option Value → Prop} {av : Array Value} {st0 : List Value} (hr : va_Run p l e R s m args below meth c H locs cells slots 0 0 (F0 m pc ls st0) rest (zR post av) (fun _ => False))
    (kk : ∀ (r : Option Value), post r → W p l e R s m args below meth c H locs cells slots Q (F0 m (pc + 3) ls (r.toList ++ rest))) : W p l e R s m args below meth c H locs cells slots Q (F0 m pc ls st0) := by
  intro T hT X
  obtain ⟨v, st₀, t, T', L, h0, X', hL, e1, e2, ⟨r, hv, hp, hh⟩, st⟩ := hr T hT X
  cases hv
  obtain ⟨t2, a1, b1⟩ := kk v hp T' (by rw [e1, hh, h0]) (Stand.forget X' (fun q h => (hL q h).elim))
  exact ⟨t2, st t2 a1, b1⟩
/-- what a call's start wants, out of the caller's world -/
theorem z_preV (hK : KG G A s s.heap) (hW : Wd G A s.heap ws H locs) (hA : ∀ q, s.heap.size ≤ q → A q) {wc : va_W} (is : List Nat) (hC : is.map (fun i => ws[i]?) = wc.map some) (hn : va_nd is = true) {ci q0 : Nat} {cr : vw_C} {fs : List Value} (hc : vwCl[ci]? = some cr) (he : ws[q0]? = some (a, .inr (ci, fs))) {As : List Value} : PreV s H cr.1 a (zPre G (.ref a :: As) wc H.size) As :=
  ⟨zPre.blind, va_recv hK.1 hW.1 hc he, fun U hU hWm => ⟨rfl, by rw [hU], by rw [hU]; exact va_P.of_map hW.1 is hC, hK.call hW.2.2 (va_free hW.2.1 hW.2.2 hA is hC) hWm hU, (hW.2.1.sub is hn hC).weaken (fun _ _ _ _ => trivial)⟩⟩
theorem z_preS (hK : KG G A s s.heap) (hW : Wd G A s.heap ws H locs) (hA : ∀ q, s.heap.size ≤ q → A q) {wc : va_W} (is : List Nat) (hC : is.map (fun i => ws[i]?) = wc.map some) (hn : va_nd is = true) {As : List Value} : PreS s H (zPre G As wc H.size) As :=
  ⟨zPre.blind, fun U hU hWm => ⟨rfl, by rw [hU], by rw [hU]; exact va_P.of_map hW.1 is hC, hK.call hW.2.2 (va_free hW.2.1 hW.2.2 hA is hC) hWm hU, (hW.2.1.sub is hn hC).weaken (fun _ _ _ _ => trivial)⟩⟩
theorem z_iret {S : Type} {post : Option Value → S → Prop} {w' : S → va_W} (C : CallFix p m c cc nL s args Ts own) {v : Int32} (hr : meth.sig.returnType = some .int) (hlocks : meth.locks = false) (hW : Wd G A s.heap ws H locs) (u : S) (hw : w' u = ws) (hp : post (some (.int v)) u) (hdg : decode cc pc = .ok (.ireturn, 1)) : W p l e R s m args below meth c H locs cells slots (MQ below (zQ G A post w') args s cells slots A) (F0 m pc ls [.int v]) :=
  W.iret C.1 C.2.1 hr (fun t ht _ => ⟨⟨_, u, rfl, hp, by rw [ht, hw]; exact hW.1⟩, hW.2.2.F ht⟩) hW.2.2.2.2 hdg hlocks
theorem z_iretR {post : Option Value → Prop} (C : CallFix p m c cc nL s args Ts own) {v : Int32} (hr : meth.sig.returnType = some .int) (hlocks : meth.locks = false) (hp : post (some (.int v))) (hdg : decode cc pc = .ok (.ireturn, 1)) : W p l e R s m args below meth c s.heap [] cells slots (MQ below (zR post) args s cells slots (fun _ => False)) (F0 m pc ls [.int v]) :=
  W.iret C.1 C.2.1 hr (fun t ht _ => ⟨_, rfl, hp, ht⟩) (fun q h => by cases h) hdg hlocks
theorem z_zret {S : Type} {post : Option Value → S → Prop} {w' : S → va_W} (C : CallFix p m c cc nL s args Ts own) {v : Int32} {ty : FieldType} (hr : meth.sig.returnType = some ty) (hnw : narrow ty (.int v) = .int v) (hlocks : meth.locks = false) (hW : Wd G A s.heap ws H locs) (u : S) (hw : w' u = ws) (hp : post (some (.int v)) u) (hdg : decode cc pc = .ok (.ireturn, 1)) : W p l e R s m args below meth c H locs cells slots (MQ below (zQ G A post w') args s cells slots A) (F0 m pc ls [.int v]) :=
  W.zret C.1 C.2.1 hr hnw (fun t ht _ => ⟨⟨_, u, rfl, hp, by rw [ht, hw]; exact hW.1⟩, hW.2.2.F ht⟩) hW.2.2.2.2 hdg hlocks
theorem z_zretR {post : Option Value → Prop} (C : CallFix p m c cc nL s args Ts own) {v : Int32} {ty : FieldType} (hr : meth.sig.returnType = some ty) (hnw : narrow ty (.int v) = .int v) (hlocks : meth.locks = false) (hp : post (some (.int v))) (hdg : decode cc pc = .ok (.ireturn, 1)) : W p l e R s m args below meth c s.heap [] cells slots (MQ below (zR post) args s cells slots (fun _ => False)) (F0 m pc ls [.int v]) :=
  W.zret C.1 C.2.1 hr hnw (fun t ht _ => ⟨_, rfl, hp, ht⟩) (fun q h => by cases h) hdg hlocks
theorem z_vret {S : Type} {post : Option Value → S → Prop} {w' : S → va_W} (C : CallFix p m c cc nL s args Ts own) (hr : meth.sig.returnType = none) (hlocks : meth.locks = false) (hW : Wd G A s.heap ws H locs) (u : S) (hw : w' u = ws) (hp : post none u) (hdg : decode cc pc = .ok (.return_, 1)) : W p l e R s m args below meth c H locs cells slots (MQ below (zQ G A post w') args s cells slots A) (F0 m pc ls []) :=
  W.vret C.1 C.2.1 hr (fun t ht _ => ⟨⟨_, u, rfl, hp, by rw [ht, hw]; exact hW.1⟩, hW.2.2.F ht⟩) hW.2.2.2.2 hdg hlocks
theorem z_vretR {post : Option Value → Prop} (C : CallFix p m c cc nL s args Ts own) (hr : meth.sig.returnType = none) (hlocks : meth.locks = false) (hp : post none) (hdg : decode cc pc = .ok (.return_, 1)) : W p l e R s m args below meth c s.heap [] cells slots (MQ below (zR post) args s cells slots (fun _ => False)) (F0 m pc ls []) :=
  W.vret C.1 C.2.1 hr (fun t ht _ => ⟨_, rfl, hp, ht⟩) (fun q h => by cases h) hdg hlocks
theorem z_lret {S : Type} {post : Option Value → S → Prop} {w' : S → va_W} (C : CallFix p m c cc nL s args Ts own) {v : Int64} (hr : meth.sig.returnType = some .long) (hlocks : meth.locks = false) (hW : Wd G A s.heap ws H locs) (u : S) (hw : w' u = ws) (hp : post (some (.long v)) u) (hdg : decode cc pc = .ok (.lreturn, 1)) : W p l e R s m args below meth c H locs cells slots (MQ below (zQ G A post w') args s cells slots A) (F0 m pc ls [.long v]) :=
  W.lret C.1 C.2.1 hr (fun t ht _ => ⟨⟨_, u, rfl, hp, by rw [ht, hw]; exact hW.1⟩, hW.2.2.F ht⟩) hW.2.2.2.2 hdg hlocks
theorem z_lretR {post : Option Value → Prop} (C : CallFix p m c cc nL s args Ts own) {v : Int64} (hr : meth.sig.returnType = some .long) (hlocks : meth.locks = false) (hp : post (some (.long v))) (hdg : decode cc pc = .ok (.lreturn, 1)) : W p l e R s m args below meth c s.heap [] cells slots (MQ below (zR post) args s cells slots (fun _ => False)) (F0 m pc ls [.long v]) :=
  W.lret C.1 C.2.1 hr (fun t ht _ => ⟨_, rfl, hp, ht⟩) (fun q h => by cases h) hdg hlocks
theorem z_aret {S : Type} {post : Option Value → S → Prop} {w' : S → va_W} (C : CallFix p m c cc nL s args Ts own) {v : Value} {rt : FieldType} (hr : meth.sig.returnType = some rt) (hrt : (∃ n, rt = .object n) ∨ ∃ t, rt = .array t) (hv : v = .null ∨ ∃ a, v = .ref a) (hlocks : meth.locks = false) (hW : Wd G A s.heap ws H locs) (u : S) (hw : w' u = ws) (hp : post (some v) u) (hdg : decode cc pc = .ok (.areturn, 1)) : W p l e R s m args below meth c H locs cells slots (MQ below (zQ G A post w') args s cells slots A) (F0 m pc ls [v]) :=
  W.aret C.1 C.2.1 hr hrt hv (fun t ht _ => ⟨⟨_, u, rfl, hp, by rw [ht, hw]; exact hW.1⟩, hW.2.2.F ht⟩) hW.2.2.2.2 hdg hlocks
theorem z_aretR {post : Option Value → Prop} (C : CallFix p m c cc nL s args Ts own) {v : Value} {rt : FieldType} (hr : meth.sig.returnType = some rt) (hrt : (∃ n, rt = .object n) ∨ ∃ t, rt = .array t) (hv : v = .null ∨ ∃ a, v = .ref a) (hlocks : meth.locks = false) (hp : post (some v)) (hdg : decode cc pc = .ok (.areturn, 1)) : W p l e R s m args below meth c s.heap [] cells slots (MQ below (zR post) args s cells slots (fun _ => False)) (F0 m pc ls [v]) :=
  W.aret C.1 C.2.1 hr hrt hv (fun t ht _ => ⟨_, rfl, hp, ht⟩) (fun q h => by cases h) hdg hlocks
end ZR
/-- every number of a row is an int -/
def BD (g : Int → Int) : Prop := ∀ j, -2147483648 ≤ g j ∧ g j ≤ 2147483647
theorem BD.up {g : Int → Int} {k x : Int} (h : BD g) (hx : -2147483648 ≤ x ∧ x ≤ 2147483647) : BD (up g k x) := fun j => by
  by_cases hj : j = k
  · subst hj
    rw [up_s]
    exact hx
  · rw [up_n g x hj]
    exact h j
theorem BD.cst {x : Int} (hx : -2147483648 ≤ x ∧ x ≤ 2147483647) : BD (fun _ => x) := fun _ => hx
/-- a method that writes nothing, from its entry -/
theorem MRc.start {l : Launch} {y : MethodName} {ws ws' : List Cond} {lev : Nat} {G : GG} {av : List Value} {w : va_W} {post : Option Value → Prop} {cc : ByteArray} {maxL : Nat} {ret : Option FieldType} {own : String}
    (hy : plainName y.cls = true) (hw : ws = Cond.code y cc maxL ret :: ws') (hown : y.cls = own) (hn : (lg_sl av).length ≤ maxL)
    (body : ∀ (p : Program) (e : Env) (s : State) (m : MethodId) (args : Array Value) (below : List Frame) (meth : Method) (c : Code) (A : Nat → Prop) (Q : State → Prop), CallFix p m c cc maxL s args ws own → KG G A s s.heap → Wd G A s.heap w s.heap [] → (∀ q, s.heap.size ≤ q → A q) → meth.sig.returnType = ret → meth.locks = false →
      Q = MQ below (zR post) args s 0 0 (fun _ => False) → ∀ ls, lv_has ls maxL (lv_args 0 av) → W p l e (rmL lev) s m args below meth c s.heap [] 0 0 Q (F0 m 0 ls [])) : MRc l y ws lev G av w post := by
  intro sz
  refine Met.ofW (cc := cc) (maxL := maxL) (ret := ret) hy hw ?_
  intro p e s m args below meth c s₁ B hml hv
  obtain ⟨rfl, hsz, hP, hK, hD0⟩ := hv
  subst hsz
  subst hown
  have hl := lv_entry av (n := maxL) hn
  rw [lg_entry_eq]
  exact body p e s m _ below meth c (va_A w s.heap.size) _ ⟨B.exec, B.bytes, hml, findClass_of_methodNamed B.named, atoms_spec (ws := ws) B.pre⟩ hK ⟨hP, hD0.self (sz := s.heap.size), va_S.rf⟩ (fun q h => Or.inr h) B.returns B.notSynchronized rfl _ hl
/-- a method that writes, from its entry -/
theorem MQc.start {l : Launch} {y : MethodName} {ws ws' : List Cond} {lev : Nat} {G : GG} {av : List Value} {w : va_W} {S : Type} {post : Option Value → S → Prop} {w' : S → va_W} {cc : ByteArray} {maxL : Nat} {ret : Option FieldType} {own : String}
    (hy : plainName y.cls = true) (hw : ws = Cond.code y cc maxL ret :: ws') (hown : y.cls = own) (hn : (lg_sl av).length ≤ maxL)
    (body : ∀ (p : Program) (e : Env) (s : State) (m : MethodId) (args : Array Value) (below : List Frame) (meth : Method) (c : Code) (A : Nat → Prop) (Q : State → Prop), CallFix p m c cc maxL s args ws own → KG G A s s.heap → Wd G A s.heap w s.heap [] → (∀ q, s.heap.size ≤ q → A q) → meth.sig.returnType = ret → meth.locks = false →
      Q = MQ below (zQ G A post w') args s 0 0 A → ∀ ls, lv_has ls maxL (lv_args 0 av) → W p l e (rmL lev) s m args below meth c s.heap [] 0 0 Q (F0 m 0 ls [])) : MQc l y ws lev G av w post w' := by
  intro sz
  refine Met.ofW (cc := cc) (maxL := maxL) (ret := ret) hy hw ?_
  intro p e s m args below meth c s₁ B hml hv
  obtain ⟨rfl, hsz, hP, hK, hD0⟩ := hv
  subst hsz
  subst hown
  have hl := lv_entry av (n := maxL) hn
  rw [lg_entry_eq]
  exact body p e s m _ below meth c (va_A w s.heap.size) _ ⟨B.exec, B.bytes, hml, findClass_of_methodNamed B.named, atoms_spec (ws := ws) B.pre⟩ hK ⟨hP, hD0.self (sz := s.heap.size), va_S.rf⟩ (fun q h => Or.inr h) B.returns B.notSynchronized rfl _ hl
theorem Wd.sub {G : GG} {A : Nat → Prop} {H0 H : Heap} {ws ws' : va_W} {locs : List Loc} (h : Wd G A H0 ws H locs) (is : List Nat) (hs : is.map (fun i => ws[i]?) = ws'.map some) (hn : va_nd is = true) : Wd G A H0 ws' H locs := ⟨va_P.of_map h.1 is hs, h.2.1.sub is hn hs, h.2.2⟩
end
section
/-! what the calls answer, in words over whole numbers: sums, places, runs, the greatest, where a row goes round -/
def smN (h : Int → Int) : Nat → Int
  | 0 => 0
  | k + 1 => smN h k + h k
/-- h 0 + .. + h (n - 1) -/
def sm (h : Int → Int) (n : Int) : Int := smN h n.toNat
theorem sm_0 {h : Int → Int} {n : Int} (hn : n ≤ 0) : sm h n = 0 := by
  unfold sm
  rw [show n.toNat = 0 by omega]
  rfl
theorem sm_s {h : Int → Int} {n : Int} (hn : 0 ≤ n) : sm h (n + 1) = sm h n + h n := by
  unfold sm
  rw [show (n + 1).toNat = n.toNat + 1 by omega, smN, Int.toNat_of_nonneg hn]
theorem sm_ind {P : Int → Prop} (n : Int) (h0 : P 0) (hs : ∀ i, 0 ≤ i → i < n → P i → P (i + 1)) (hn : 0 ≤ n) : P n := by
  have key : ∀ k : Nat, (k : Int) ≤ n → P k := by
    intro k
    induction k with
    | zero => intro _; exact h0
    | succ k ih => intro hk; have := hs k (by omega) (by omega) (ih (by omega)); rwa [show ((k + 1 : Nat) : Int) = (k : Int) + 1 by omega]
  have := key n.toNat (by omega)
  rwa [Int.toNat_of_nonneg hn] at this
theorem sm_congr {h h' : Int → Int} {n : Int} (hh : ∀ j, 0 ≤ j → j < n → h j = h' j) : sm h n = sm h' n := by
  rcases Int.lt_or_le n 0 with hn | hn
  · rw [sm_0 (by omega), sm_0 (by omega)]
  · refine sm_ind (P := fun i => i ≤ n → sm h i = sm h' i) n (fun _ => by rw [sm_0 (by omega), sm_0 (by omega)]) (fun i h0 h1 ih hi => ?_) hn (Int.le_refl n)
    rw [sm_s h0, sm_s h0, ih (by omega), hh i h0 h1]
theorem sm_b {h : Int → Int} {n lo hi : Int} (hh : ∀ j, 0 ≤ j → j < n → lo ≤ h j ∧ h j ≤ hi) (hn : 0 ≤ n) : lo * n ≤ sm h n ∧ sm h n ≤ hi * n := by
  refine sm_ind (P := fun i => i ≤ n → lo * i ≤ sm h i ∧ sm h i ≤ hi * i) n (fun _ => by rw [sm_0 (by omega)]; simp) (fun i h0 h1 ih hi' => ?_) hn (Int.le_refl n)
  have a := ih (by omega)
  have b := hh i h0 h1
  rw [sm_s h0, Int.mul_add, Int.mul_add, Int.mul_one, Int.mul_one]
  omega
/-- how often v stands among the first n numbers -/
def oc (g : Int → Int) (v n : Int) : Int := sm (fun j => if g j = v then 1 else 0) n
theorem oc_0 {g : Int → Int} {v n : Int} (hn : n ≤ 0) : oc g v n = 0 := sm_0 hn
theorem oc_s {g : Int → Int} {v n : Int} (hn : 0 ≤ n) : oc g v (n + 1) = oc g v n + (if g n = v then 1 else 0) := sm_s hn
theorem oc_congr {g g' : Int → Int} {v n : Int} (hh : ∀ j, 0 ≤ j → j < n → g j = g' j) : oc g v n = oc g' v n := sm_congr (fun j h0 h1 => by rw [hh j h0 h1])
theorem oc_b {g : Int → Int} {v n : Int} (hn : 0 ≤ n) : 0 ≤ oc g v n ∧ oc g v n ≤ n := by
  have h := sm_b (h := fun j => if g j = v then 1 else 0) (lo := 0) (hi := 1) (n := n) (fun j _ _ => by split <;> omega) hn
  unfold oc
  omega
theorem oc_pos {g : Int → Int} {v n : Int} (hn : 0 ≤ n) : oc g v n = 0 ↔ ∀ j, 0 ≤ j → j < n → g j ≠ v := by
  refine sm_ind (P := fun i => oc g v i = 0 ↔ ∀ j, 0 ≤ j → j < i → g j ≠ v) n (by rw [oc_0 (by omega)]; exact ⟨fun _ j h0 h1 => by omega, fun _ => rfl⟩) (fun i h0 h1 ih => ?_) hn
  have hb := oc_b (g := g) (v := v) h0
  rw [oc_s h0]
  constructor
  · intro h j hj0 hj1
    split at h
    · omega
    · rcases Int.lt_or_le j i with hji | hji
      · exact ih.mp (by omega) j hj0 hji
      · rw [show j = i by omega]; assumption
  · intro h
    rw [if_neg (h i h0 (by omega)), ih.mpr (fun j hj0 hj1 => h j hj0 (by omega))]
    rfl
/-- the first place of v among the first n; -4: none -/
def FirstR (g : Int → Int) (n v z : Int) : Prop := (0 ≤ z ∧ z < n ∧ g z = v ∧ ∀ j, 0 ≤ j → j < z → g j ≠ v) ∨ (z = -4 ∧ ∀ j, 0 ≤ j → j < n → g j ≠ v)
/-- z is where the run that begins at s ends, of the places ahead of e -/
def RunE (g : Int → Int) (s e z : Int) : Prop := s < z ∧ z ≤ e ∧ (∀ j, s ≤ j → j < z → g j = g s) ∧ (z < e → g z ≠ g s)
def RunAt (g : Int → Int) (n : Int) : Nat → Int → Prop
  | 0, s => s = 0
  | k + 1, s => ∃ s0, RunAt g n k s0 ∧ s0 < n ∧ RunE g s0 n s
/-- the start of run k; -4: none -/
def StartR (g : Int → Int) (n k z : Int) : Prop := (0 ≤ z ∧ z < n ∧ RunAt g n k.toNat z) ∨ (z = -4 ∧ ∀ s, RunAt g n k.toNat s → ¬ s < n)
/-- the greatest of the first n -/
def MaxR (g : Int → Int) (n z : Int) : Prop := (∃ j, 0 ≤ j ∧ j < n ∧ g j = z) ∧ ∀ j, 0 ≤ j → j < n → g j ≤ z
/-- the longest run of the first n -/
def LongR (g : Int → Int) (n z : Int) : Prop := (∃ s, 0 ≤ s ∧ s + z ≤ n ∧ 1 ≤ z ∧ ∀ j, s ≤ j → j < s + z → g j = g s) ∧ ∀ s y, 0 ≤ s → s + y ≤ n → 1 ≤ y → (∀ j, s ≤ j → j < s + y → g j = g s) → y ≤ z
/-- how many unlike numbers among the first n -/
def dst (g : Int → Int) (n : Int) : Int := sm (fun j => if oc g (g j) j = 0 then 1 else 0) n
theorem dst_0 {g : Int → Int} {n : Int} (hn : n ≤ 0) : dst g n = 0 := sm_0 hn
theorem dst_s {g : Int → Int} {n : Int} (hn : 0 ≤ n) : dst g (n + 1) = dst g n + (if oc g (g n) n = 0 then 1 else 0) := sm_s hn
theorem dst_b {g : Int → Int} {n : Int} (hn : 0 ≤ n) : 0 ≤ dst g n ∧ dst g n ≤ n := by
  have h := sm_b (h := fun j => if oc g (g j) j = 0 then 1 else 0) (lo := 0) (hi := 1) (n := n) (fun j _ _ => by split <;> omega) hn
  unfold dst
  omega
/-- z is the least place from which on each number is p places farther on -/
def TailR (g : Int → Int) (n p z : Int) : Prop := 0 ≤ z ∧ z ≤ n - p ∧ (∀ j, z ≤ j → j < n - p → g j = g (j + p)) ∧ (z = 0 ∨ g (z - 1) ≠ g (z - 1 + p))
/-- p is a period of the row: three of them at least from the tail on -/
def GoesR (g : Int → Int) (n p : Int) : Prop := 1 ≤ p ∧ p ≤ 600 ∧ ∃ z, TailR g n p z ∧ n - z ≥ 3 * p
/-- the least period; -4: none -/
def PerR (g : Int → Int) (n z : Int) : Prop := (GoesR g n z ∧ ∀ p, p < z → ¬ GoesR g n p) ∨ (z = -4 ∧ ∀ p, ¬ GoesR g n p)
theorem RunE_fun {g : Int → Int} {s e z z' : Int} (h : RunE g s e z) (h' : RunE g s e z') : z = z' := by
  obtain ⟨a1, a2, a3, a4⟩ := h
  obtain ⟨b1, b2, b3, b4⟩ := h'
  rcases Int.lt_trichotomy z z' with q | q | q
  · exact absurd (b3 z (by omega) q) (a4 (by omega))
  · exact q
  · exact absurd (a3 z' (by omega) q) (b4 (by omega))
theorem RunAt_fun {g : Int → Int} {n : Int} : ∀ (k : Nat) (s s' : Int), RunAt g n k s → RunAt g n k s' → s = s' := by
  intro k
  induction k with
  | zero => intro s s' h h'; rw [show s = 0 from h, show s' = 0 from h']
  | succ k ih =>
    intro s s' h h'
    obtain ⟨x, h1, h2, h3⟩ := h
    obtain ⟨y, g1, g2, g3⟩ := h'
    have := ih x y h1 g1
    subst this
    exact RunE_fun h3 g3
theorem RunAt_end {g : Int → Int} {n : Int} {t : Nat} {s : Int} (h : RunAt g n t s) (hs : ¬ s < n) : ∀ (d : Nat) (s' : Int), RunAt g n (t + d) s' → ¬ s' < n := by
  intro d
  induction d with
  | zero => intro s' h'; rw [← RunAt_fun t s s' h h']; exact hs
  | succ d ih =>
    intro s' h'
    obtain ⟨x, h1, h2, h3⟩ := h'
    exact absurd h2 (ih x h1)
theorem TailR_fun {g : Int → Int} {n p z z' : Int} (h : TailR g n p z) (h' : TailR g n p z') : z = z' := by
  obtain ⟨a1, a2, a3, a4⟩ := h
  obtain ⟨b1, b2, b3, b4⟩ := h'
  rcases Int.lt_trichotomy z z' with q | q | q
  · rcases b4 with b4 | b4
    · omega
    · exact absurd (a3 (z' - 1) (by omega) (by omega)) b4
  · exact q
  · rcases a4 with a4 | a4
    · omega
    · exact absurd (b3 (z - 1) (by omega) (by omega)) a4
theorem MaxR_s {g : Int → Int} {i k : Int} (hi : 0 ≤ i) (h : (i = 0 ∧ k ≤ g i) ∨ MaxR g i k) : MaxR g (i + 1) (max k (g i)) := by
  rcases h with ⟨h0, hk⟩ | ⟨⟨j, j0, j1, j2⟩, h2⟩
  · subst h0
    refine ⟨⟨0, by omega, by omega, by omega⟩, fun j j0 j1 => ?_⟩
    rw [show j = 0 by omega]
    omega
  · refine ⟨?_, fun x x0 x1 => ?_⟩
    · rcases Int.lt_or_le k (g i) with q | q
      · exact ⟨i, hi, by omega, by omega⟩
      · exact ⟨j, j0, by omega, by omega⟩
    · rcases Int.lt_or_le x i with q | q
      · have := h2 x x0 q
        omega
      · rw [show x = i by omega]
        omega
theorem LongR_s {g : Int → Int} {st en z k : Int} (h0 : 0 ≤ st) (h : (st = 0 ∧ k = 0) ∨ (LongR g st k ∧ g (st - 1) ≠ g st)) (hr : RunE g st en z) : LongR g z (max k (z - st)) := by
  obtain ⟨a1, a2, a3, a4⟩ := hr
  rcases h with ⟨e0, ek⟩ | ⟨⟨⟨s, s0, s1, s2, s3⟩, hm⟩, hb⟩
  · subst e0
    subst ek
    refine ⟨⟨0, by omega, by omega, by omega, fun j j0 j1 => a3 j j0 (by omega)⟩, fun s y x0 x1 x2 x3 => by omega⟩
  · refine ⟨?_, fun x y x0 x1 x2 x3 => ?_⟩
    · rcases Int.lt_or_le k (z - st) with q | q
      · exact ⟨st, h0, by omega, by omega, fun j j0 j1 => a3 j j0 (by omega)⟩
      · exact ⟨s, s0, by omega, by omega, fun j j0 j1 => s3 j j0 (by omega)⟩
    · rcases Int.lt_or_le st x with q | q
      · omega
      · rcases Int.lt_or_le st (x + y) with q2 | q2
        · rcases Int.lt_or_le x st with q3 | q3
          · exfalso
            apply hb
            rw [x3 (st - 1) (by omega) (by omega), x3 st (by omega) (by omega)]
          · omega
        · have := hm x y x0 q2 x2 x3
          omega
theorem up_pre {f1 g : Int → Int} {i z : Int} (he : ∀ j, 0 ≤ j → j < i → f1 j = g j) (hz : z = g i) : ∀ j, 0 ≤ j → j < i + 1 → up f1 i z j = g j := by
  intro j h0 h1
  rcases Int.lt_or_le j i with q | q
  · rw [up_n _ _ (by omega)]
    exact he j h0 q
  · rw [show j = i by omega, up_s, hz]
end
section
/-! figures said, counted, told back -/
def FIG (f : Int → Int) (n : Int) : Prop := ∀ j, 0 ≤ j → j < n → 1 ≤ f j ∧ f j ≤ 9
def OutR (f : Int → Int) (n : Int) (t : Nat) (g : Int → Int) : Prop := ∀ (k : Nat), k < t → ∀ s e, RunAt f n k s → s < n → RunE f s n e → e - s ≤ 9 ∧ g (2 * k) = e - s ∧ g (2 * k + 1) = f s
/-- t runs are said, the next one begins at s -/
def SayS (f : Int → Int) (n : Int) (t : Nat) (s : Int) (g : Int → Int) (m : Int) : Prop := m = 2 * t ∧ m ≤ 5000 ∧ RunAt f n t s ∧ OutR f n t g ∧ 0 ≤ s ∧ s ≤ n
def SayR (f : Int → Int) (n : Int) (g : Int → Int) (m : Int) : Prop := ∃ t : Nat, SayS f n t n g m
def SayB (f : Int → Int) (n : Int) : Prop := ∃ (t : Nat) (s e : Int), RunAt f n t s ∧ s < n ∧ RunE f s n e ∧ (9 < e - s ∨ 5000 < 2 * (t : Int) + 2)
theorem SayS_0 {f g : Int → Int} {n : Int} (hn : 0 ≤ n) : SayS f n 0 0 g 0 := ⟨rfl, by omega, rfl, fun k hk => absurd hk (Nat.not_lt_zero k), by omega, hn⟩
theorem SayS_s {f g : Int → Int} {n s e m : Int} {t : Nat} (h : SayS f n t s g m) (hs : s < n) (hr : RunE f s n e) (h9 : e - s ≤ 9) (hm : m + 2 ≤ 5000) : SayS f n (t + 1) e (up (up g m (e - s)) (m + 1) (f s)) (m + 2) := by
  obtain ⟨a1, a2, a3, a4, a5, a6⟩ := h
  refine ⟨by omega, hm, ⟨s, a3, hs, hr⟩, ?_, by have := hr.1; omega, hr.2.1⟩
  intro k hk x y hx hxn hy
  rcases Nat.lt_or_ge k t with q | q
  · have := a4 k q x y hx hxn hy
    rw [up_n _ _ (by omega), up_n _ _ (by omega), up_n _ _ (by omega), up_n _ _ (by omega)]
    exact this
  · have hkt : k = t := by omega
    subst hkt
    have := RunAt_fun _ _ _ hx a3
    subst this
    have := RunE_fun hy hr
    subst this
    rw [up_n _ _ (by omega), show 2 * (k : Int) = m by omega, up_s, up_s]
    exact ⟨h9, rfl, rfl⟩
theorem SayS_b {f g : Int → Int} {n s e m : Int} {t : Nat} (h : SayS f n t s g m) (hs : s < n) (hr : RunE f s n e) (hb : 9 < e - s ∨ 5000 < m + 2) : SayB f n := ⟨t, s, e, h.2.2.1, hs, hr, by have := h.1; omega⟩
/-- the class's loop: a run of run figures stands ahead of i -/
def SayC (f : Int → Int) (n i run : Int) (g : Int → Int) (m : Int) : Prop := ∃ (t : Nat) (s : Int), SayS f n t s g m ∧ s + run = i ∧ 0 ≤ run ∧ (∀ j, s ≤ j → j < i → f j = f s) ∧ (0 < run → i < n ∧ f i = f s)
theorem SayC_0 {f g : Int → Int} {n : Int} (hn : 0 ≤ n) : SayC f n 0 0 g 0 := ⟨0, 0, SayS_0 hn, by omega, by omega, fun j h0 h1 => by omega, fun h => by omega⟩
theorem SayC_m {f g : Int → Int} {n i run m : Int} (h : SayC f n i run g m) : 0 ≤ m ∧ m ≤ 5000 ∧ m % 2 = 0 := by
  obtain ⟨t, s, a1, -⟩ := h
  have := a1.1
  have := a1.2.1
  omega
theorem SayC_c {f g : Int → Int} {n i run m : Int} (h : SayC f n i run g m) (hi : i + 1 < n) (he : f (i + 1) = f i) : SayC f n (i + 1) (run + 1) g m := by
  obtain ⟨t, s, a1, a2, a3, a4, a5⟩ := h
  have hfi : f i = f s := by
    rcases Int.lt_or_le 0 run with q | q
    · exact (a5 q).2
    · rw [show i = s by omega]
  refine ⟨t, s, a1, by omega, by omega, fun j j0 j1 => ?_, fun _ => ⟨hi, by rw [he, hfi]⟩⟩
  rcases Int.lt_or_le j i with q | q
  · exact a4 j j0 q
  · rw [show j = i by omega, hfi]
theorem SayC_r {f g : Int → Int} {n i run m : Int} (h : SayC f n i run g m) (hi : i < n) (he : i + 1 < n → f (i + 1) ≠ f i) : ∃ (t : Nat) (s : Int), SayS f n t s g m ∧ s + run = i ∧ 0 ≤ run ∧ RunE f s n (i + 1) ∧ f i = f s := by
  obtain ⟨t, s, a1, a2, a3, a4, a5⟩ := h
  have hfi : f i = f s := by
    rcases Int.lt_or_le 0 run with q | q
    · exact (a5 q).2
    · rw [show i = s by omega]
  refine ⟨t, s, a1, a2, a3, ⟨by omega, by omega, fun j j0 j1 => ?_, fun h1 => by rw [← hfi]; exact he h1⟩, hfi⟩
  rcases Int.lt_or_le j i with q | q
  · exact a4 j j0 q
  · rw [show j = i by omega, hfi]
theorem SayC_n {f g : Int → Int} {n i run m : Int} (h : SayC f n i run g m) (hi : i < n) (he : i + 1 < n → f (i + 1) ≠ f i) (h9 : run + 1 ≤ 9) (hm : m + 2 ≤ 5000) : SayC f n (i + 1) 0 (up (up g m (run + 1)) (m + 1) (f i)) (m + 2) := by
  obtain ⟨t, s, a1, a2, a3, a4, a5⟩ := SayC_r h hi he
  have := SayS_s a1 (by omega) a4 (by omega) hm
  rw [show i + 1 - s = run + 1 by omega, ← a5] at this
  exact ⟨t + 1, i + 1, this, by omega, by omega, fun j j0 j1 => by omega, fun z => by omega⟩
theorem SayC_b {f g : Int → Int} {n i run m : Int} (h : SayC f n i run g m) (hi : i < n) (he : i + 1 < n → f (i + 1) ≠ f i) (hb : 9 < run + 1 ∨ 5000 < m + 2) : SayB f n := by
  obtain ⟨t, s, a1, a2, a3, a4, a5⟩ := SayC_r h hi he
  exact SayS_b a1 (by omega) a4 (by omega)
theorem SayC_e {f g : Int → Int} {n i run m : Int} (h : SayC f n i run g m) (hi : ¬ i < n) (hin : i ≤ n) : SayR f n g m := by
  obtain ⟨t, s, a1, a2, a3, a4, a5⟩ := h
  have : run = 0 := by
    rcases Int.lt_or_le 0 run with q | q
    · exact absurd (a5 q).1 hi
    · omega
  exact ⟨t, by rw [show n = s by omega] at a1 ⊢; exact a1⟩
/-- how many of the figures 1 to x come at all -/
def tc (f : Int → Int) (n x : Int) : Int := sm (fun y => if 0 < oc f (y + 1) n then 1 else 0) x
theorem tc_0 {f : Int → Int} {n : Int} : tc f n 0 = 0 := sm_0 (by omega)
theorem tc_s {f : Int → Int} {n x : Int} (hx : 0 ≤ x) : tc f n (x + 1) = tc f n x + (if 0 < oc f (x + 1) n then 1 else 0) := sm_s hx
theorem tc_b {f : Int → Int} {n x : Int} (hx : 0 ≤ x) : 0 ≤ tc f n x ∧ tc f n x ≤ x := by
  have h := sm_b (h := fun y => if 0 < oc f (y + 1) n then 1 else 0) (lo := 0) (hi := 1) (n := x) (fun j _ _ => by split <;> omega) hx
  unfold tc
  omega
theorem tc_mono {f : Int → Int} {n x y : Int} (hx : 0 ≤ x) (hxy : x ≤ y) : tc f n x ≤ tc f n y := by
  refine sm_ind (P := fun i => tc f n x ≤ tc f n (x + i)) (y - x) (by rw [Int.add_zero]; omega) (fun i h0 h1 ih => ?_) (by omega) |> fun h => by rwa [show x + (y - x) = y by omega] at h
  rw [show x + (i + 1) = (x + i) + 1 by omega, tc_s (by omega)]
  split <;> omega
def TalS (f : Int → Int) (n x : Int) (g : Int → Int) (m : Int) : Prop := m = 2 * tc f n x ∧ ∀ y, 0 ≤ y → y < x → oc f (y + 1) n ≤ 9 ∧ (0 < oc f (y + 1) n → g (2 * tc f n y) = oc f (y + 1) n ∧ g (2 * tc f n y + 1) = y + 1)
def TalR (f : Int → Int) (n : Int) (g : Int → Int) (m : Int) : Prop := TalS f n 9 g m
def TalB (f : Int → Int) (n : Int) : Prop := ∃ y, 0 ≤ y ∧ y < 9 ∧ 9 < oc f (y + 1) n
theorem TalS_0 {f g : Int → Int} {n : Int} : TalS f n 0 g 0 := ⟨by rw [tc_0]; rfl, fun y h0 h1 => by omega⟩
theorem TalS_m {f g : Int → Int} {n x m : Int} (h : TalS f n x g m) (hx : 0 ≤ x) : 0 ≤ m ∧ m ≤ 2 * x := by
  have := tc_b (f := f) (n := n) hx
  have := h.1
  omega
theorem TalS_z {f g : Int → Int} {n x m : Int} (h : TalS f n x g m) (hx : 0 ≤ x) (hc : oc f (x + 1) n ≤ 0) : TalS f n (x + 1) g m := by
  refine ⟨by rw [tc_s hx, if_neg (by omega), h.1]; omega, fun y y0 y1 => ?_⟩
  rcases Int.lt_or_le y x with q | q
  · exact h.2 y y0 q
  · rw [show y = x by omega]
    exact ⟨by omega, fun z => by omega⟩
theorem TalS_s {f g : Int → Int} {n x m c : Int} (h : TalS f n x g m) (hx : 0 ≤ x) (hc : c = oc f (x + 1) n) (h0 : 0 < c) (h9 : c ≤ 9) : TalS f n (x + 1) (up (up g m c) (m + 1) (x + 1)) (m + 2) := by
  subst hc
  refine ⟨by rw [tc_s hx, if_pos h0, h.1]; omega, fun y y0 y1 => ?_⟩
  have hm := h.1
  rcases Int.lt_or_le y x with q | q
  · have a := h.2 y y0 q
    refine ⟨a.1, fun z => ?_⟩
    have b := tc_mono (f := f) (n := n) (x := y + 1) (y := x) (by omega) (by omega)
    rw [tc_s y0, if_pos z] at b
    rw [up_n _ _ (by omega), up_n _ _ (by omega), up_n _ _ (by omega), up_n _ _ (by omega)]
    exact a.2 z
  · have e : y = x := by omega
    subst e
    refine ⟨h9, fun _ => ?_⟩
    rw [up_n _ _ (by omega), ← hm, up_s, up_s]
    exact ⟨rfl, rfl⟩
/-- where the i-th pair's figures begin, told back -/
def off (f : Int → Int) (i : Int) : Int := sm (fun y => f (2 * y)) i
theorem off_0 {f : Int → Int} : off f 0 = 0 := sm_0 (by omega)
theorem off_s {f : Int → Int} {i : Int} (hi : 0 ≤ i) : off f (i + 1) = off f i + f (2 * i) := sm_s hi
theorem off_mono {f : Int → Int} {n i k : Int} (hf : FIG f n) (hi : 0 ≤ i) (hik : i ≤ k) (hk : 2 * k ≤ n) : off f i ≤ off f k := by
  have h := sm_ind (P := fun d => i + d ≤ k → off f i ≤ off f (i + d)) (k - i) (fun _ => by rw [Int.add_zero]; omega) (fun d h0 h1 ih h2 => by
    have := ih (by omega)
    have := (hf (2 * (i + d)) (by omega) (by omega)).1
    rw [show i + (d + 1) = (i + d) + 1 by omega, off_s (by omega)]
    omega) (by omega)
  have := h (by omega)
  rwa [show i + (k - i) = k by omega] at this
def UnS (f : Int → Int) (n i : Int) (g : Int → Int) (m : Int) : Prop := 0 ≤ i ∧ 2 * i ≤ n ∧ m = off f i ∧ m ≤ 5000 ∧ (∀ y, 1 ≤ y → y < i → f (2 * y + 1) ≠ f (2 * y - 1)) ∧ ∀ y k, 0 ≤ y → y < i → 0 ≤ k → k < f (2 * y) → g (off f y + k) = f (2 * y + 1)
def UnR (f : Int → Int) (n : Int) (g : Int → Int) (m : Int) : Prop := ∃ i, n = 2 * i ∧ UnS f n i g m
def UnB (f : Int → Int) (n : Int) : Prop := n % 2 ≠ 0 ∨ (∃ y, 1 ≤ y ∧ 2 * y + 1 < n ∧ f (2 * y + 1) = f (2 * y - 1)) ∨ ∃ i, n = 2 * i ∧ 5000 < off f i
theorem UnS_0 {f g : Int → Int} {n : Int} (hn : 0 ≤ n) : UnS f n 0 g 0 := ⟨by omega, by omega, by rw [off_0], by omega, fun y h0 h1 => by omega, fun y k h0 h1 => by omega⟩
theorem UnS_s {f g g' : Int → Int} {n i m k : Int} (h : UnS f n i g m) (hf : FIG f n) (hi : 2 * i + 1 < n) (hk : k = f (2 * i)) (hm : m + k ≤ 5000) (hne : 1 ≤ i → f (2 * i + 1) ≠ f (2 * i - 1)) (h1 : ∀ j, j < m → g' j = g j) (h2 : ∀ j, 0 ≤ j → j < k → g' (m + j) = f (2 * i + 1)) : UnS f n (i + 1) g' (m + k) := by
  obtain ⟨a1, a2, a3, a4, a5, a6⟩ := h
  subst hk
  refine ⟨by omega, by omega, by rw [off_s a1, a3], hm, fun y y0 y1 => ?_, fun y j y0 y1 j0 j1 => ?_⟩
  · rcases Int.lt_or_le y i with q | q
    · exact a5 y y0 q
    · rw [show y = i by omega]
      exact hne (by omega)
  · rcases Int.lt_or_le y i with q | q
    · rw [h1 _ ?_]
      · exact a6 y j y0 q j0 j1
      · have := off_mono hf (i := y + 1) (k := i) (by omega) (by omega) (by omega)
        rw [off_s y0] at this
        omega
    · have e : y = i := by omega
      subst e
      rw [← a3]
      exact h2 j j0 j1
theorem SayC_run {f g : Int → Int} {n i run m : Int} (h : SayC f n i run g m) : 0 ≤ run ∧ run ≤ i := by
  obtain ⟨t, s, a1, a2, a3, -⟩ := h
  have := a1.2.2.2.2.1
  omega
/-- said or counted once; said or counted k times -/
def StepR (b : Int) (f : Int → Int) (n : Int) (g : Int → Int) (m : Int) : Prop := (b ≠ 0 ∧ TalR f n g m) ∨ (b = 0 ∧ SayR f n g m)
def StepB (b : Int) (f : Int → Int) (n : Int) : Prop := (b ≠ 0 ∧ TalB f n) ∨ (b = 0 ∧ SayB f n)
def It (b : Int) (f : Int → Int) (n : Int) : Nat → (Int → Int) → Int → Prop
  | 0, g, m => m = n ∧ ∀ j, 0 ≤ j → j < n → g j = f j
  | k + 1, g, m => ∃ g1 m1, It b f n k g1 m1 ∧ StepR b g1 m1 g m
def ItB (b : Int) (f : Int → Int) (n : Int) (k : Nat) : Prop := ∃ (j : Nat) (g1 : Int → Int) (m1 : Int), j < k ∧ It b f n j g1 m1 ∧ StepB b g1 m1
/-- told back k times -/
def UIt (f : Int → Int) (n : Int) : Nat → (Int → Int) → Int → Prop
  | 0, g, m => m = n ∧ ∀ j, 0 ≤ j → j < n → g j = f j
  | k + 1, g, m => ∃ g1 m1, UIt f n k g1 m1 ∧ UnR g1 m1 g m
def BackR (f : Int → Int) (n z : Int) : Prop := 0 ≤ z ∧ z ≤ 20 ∧ ∃ g m, UIt f n z.toNat g m ∧ (z = 20 ∨ UnB g m)
theorem UnS_fig {f g : Int → Int} {n i m : Int} (h : UnS f n i g m) (hf : FIG f n) : FIG g m := by
  obtain ⟨a1, a2, a3, a4, a5, a6⟩ := h
  subst a3
  have key := sm_ind (P := fun q => q ≤ i → ∀ j, 0 ≤ j → j < off f q → 1 ≤ g j ∧ g j ≤ 9) i (fun _ j j0 j1 => by rw [off_0] at j1; omega) (fun q q0 q1 ih q2 j j0 j1 => by
    rcases Int.lt_or_le j (off f q) with r | r
    · exact ih (by omega) j j0 r
    · rw [off_s q0] at j1
      have := a6 q (j - off f q) q0 (by omega) (by omega) (by omega)
      rw [show off f q + (j - off f q) = j by omega] at this
      rw [this]
      have := hf (2 * q + 1) (by omega) (by omega)
      exact this) a1
  exact fun j j0 j1 => key (by omega) j j0 j1
theorem UnR_fig {f g : Int → Int} {n m : Int} (h : UnR f n g m) (hf : FIG f n) : FIG g m := by
  obtain ⟨i, -, h⟩ := h
  exact UnS_fig h hf
end
section
/-! tellers: numbers that tell how many figures of each sort they have, in rising order -/
theorem sm_add {h h' : Int → Int} {n : Int} : sm (fun j => h j + h' j) n = sm h n + sm h' n := by
  rcases Int.lt_or_le n 0 with q | q
  · rw [sm_0 (by omega), sm_0 (by omega), sm_0 (by omega)]; rfl
  · refine sm_ind (P := fun i => sm (fun j => h j + h' j) i = sm h i + sm h' i) n (by rw [sm_0 (by omega), sm_0 (by omega), sm_0 (by omega)]; rfl) (fun i h0 h1 ih => ?_) q
    rw [sm_s h0, sm_s h0, sm_s h0, ih]
    omega
theorem sm_swap {h : Int → Int → Int} {n m : Int} (hm : 0 ≤ m) : sm (fun j => sm (fun k => h j k) n) m = sm (fun k => sm (fun j => h j k) m) n := by
  refine sm_ind (P := fun i => sm (fun j => sm (fun k => h j k) n) i = sm (fun k => sm (fun j => h j k) i) n) m ?_ (fun i h0 h1 ih => ?_) hm
  · rw [sm_0 (by omega)]
    have : sm (fun k => sm (fun j => h j k) 0) n = sm (fun _ => 0) n := sm_congr (fun j _ _ => sm_0 (by omega))
    rw [this]
    rcases Int.lt_or_le n 0 with q | q
    · rw [sm_0 (by omega)]
    · have := sm_b (h := fun _ => (0 : Int)) (lo := 0) (hi := 0) (n := n) (fun _ _ _ => by omega) q
      omega
  · rw [sm_s h0, ih, ← sm_add]
    exact sm_congr (fun k _ _ => (sm_s (h := fun j => h j k) h0).symm)
theorem sm_pick {w : Int → Int} {v n : Int} (hn : 0 ≤ n) : sm (fun j => if v = j then w j else 0) n = if 0 ≤ v ∧ v < n then w v else 0 := by
  refine sm_ind (P := fun i => sm (fun j => if v = j then w j else 0) i = if 0 ≤ v ∧ v < i then w v else 0) n (by rw [sm_0 (by omega), if_neg (by omega)]) (fun i h0 h1 ih => ?_) hn
  rw [sm_s h0, ih]
  by_cases hv : v = i
  · subst hv
    rw [if_neg (by omega), if_pos rfl, if_pos (by omega)]
    omega
  · rw [if_neg hv]
    by_cases h2 : 0 ≤ v ∧ v < i
    · rw [if_pos h2, if_pos (by omega)]
      omega
    · rw [if_neg h2, if_neg (by omega)]
      rfl
theorem sm_mono {h h' : Int → Int} {n : Int} (hh : ∀ j, 0 ≤ j → j < n → h j ≤ h' j) (hn : 0 ≤ n) : sm h n ≤ sm h' n := by
  refine sm_ind (P := fun i => i ≤ n → sm h i ≤ sm h' i) n (fun _ => by rw [sm_0 (by omega), sm_0 (by omega)]; omega) (fun i h0 h1 ih hi => ?_) hn (Int.le_refl n)
  have := ih (by omega)
  have := hh i h0 h1
  rw [sm_s h0, sm_s h0]
  omega
def TellR (d : Int → Int) (b : Int) : Prop := ∀ j, 0 ≤ j → j < b → oc d j b = d j
theorem tell_sum {d : Int → Int} {b : Int} (hb : 0 ≤ b) (hd : ∀ j, 0 ≤ j → j < b → 0 ≤ d j ∧ d j < b) (h : TellR d b) : sm d b = b ∧ sm (fun j => j * d j) b = b := by
  have one : sm (fun _ => 1) b = b := by
    have := sm_b (h := fun _ => (1 : Int)) (lo := 1) (hi := 1) (n := b) (fun _ _ _ => by omega) hb
    omega
  have e1 : sm d b = b := by
    have : sm d b = sm (fun j => sm (fun k => if d k = j then 1 else 0) b) b := sm_congr (fun j h0 h1 => (h j h0 h1).symm)
    rw [this, sm_swap hb]
    rw [show sm (fun k => sm (fun j => if d k = j then 1 else 0) b) b = sm (fun _ => 1) b from sm_congr (fun k h0 h1 => by rw [sm_pick (w := fun _ => 1) hb, if_pos (hd k h0 h1)])]
    exact one
  refine ⟨e1, ?_⟩
  have : sm (fun j => j * d j) b = sm (fun j => sm (fun k => if d k = j then j else 0) b) b := sm_congr (fun j h0 h1 => by
    rw [← h j h0 h1]
    unfold oc
    have key : ∀ q : Int, 0 ≤ q → j * sm (fun k => if d k = j then 1 else 0) q = sm (fun k => if d k = j then j else 0) q := fun q hq => by
      refine sm_ind (P := fun i => j * sm (fun k => if d k = j then 1 else 0) i = sm (fun k => if d k = j then j else 0) i) q (by rw [sm_0 (by omega), sm_0 (by omega)]; omega) (fun i i0 i1 ih => ?_) hq
      rw [sm_s i0, sm_s i0, Int.mul_add, ih]
      split <;> omega
    exact key b hb)
  rw [this, sm_swap hb]
  rw [show sm (fun k => sm (fun j => if d k = j then j else 0) b) b = sm d b from sm_congr (fun k h0 h1 => by rw [sm_pick (w := fun j => j) hb, if_pos (hd k h0 h1)])]
  exact e1
def tellB (d : Int → Int) (b : Int) : Bool := (List.range b.toNat).all (fun j => decide (oc d j b = d j))
theorem tellB_iff {d : Int → Int} {b : Int} : tellB d b = true ↔ TellR d b := by
  unfold tellB TellR
  rw [List.all_eq_true]
  constructor
  · intro h j h0 h1
    have := of_decide_eq_true (h j.toNat (List.mem_range.mpr (by omega)))
    rwa [Int.toNat_of_nonneg h0] at this
  · intro h j hj
    have := List.mem_range.mp hj
    exact decide_eq_true (h j (by omega) (by omega))
theorem TellR_congr {d d' : Int → Int} {b : Int} (hh : ∀ j, 0 ≤ j → j < b → d j = d' j) (h : TellR d b) : TellR d' b := fun j h0 h1 => by rw [← hh j h0 h1, ← h j h0 h1]; exact (oc_congr hh).symm
def cdN (d : Int → Int) : Nat → Int
  | 0 => 0
  | k + 1 => 10 * cdN d k + d k
/-- the figures as a number of ten -/
def cd (d : Int → Int) (n : Int) : Int := cdN d n.toNat
theorem cd_0 {d : Int → Int} : cd d 0 = 0 := rfl
theorem cd_s {d : Int → Int} {n : Int} (hn : 0 ≤ n) : cd d (n + 1) = 10 * cd d n + d n := by
  unfold cd
  rw [show (n + 1).toNat = n.toNat + 1 by omega, cdN, Int.toNat_of_nonneg hn]
theorem cd_congr {d d' : Int → Int} {n : Int} (hn : 0 ≤ n) (hh : ∀ j, 0 ≤ j → j < n → d j = d' j) : cd d n = cd d' n := by
  refine sm_ind (P := fun i => i ≤ n → cd d i = cd d' i) n (fun _ => rfl) (fun i h0 h1 ih hi => ?_) hn (Int.le_refl n)
  rw [cd_s h0, cd_s h0, ih (by omega), hh i h0 h1]
/-- the tellers that begin with the first p figures of d, k figures are wanting -/
def TLs (b : Int) : Nat → Int → (Int → Int) → List Int
  | 0, _, d => if tellB d b then [cd d b] else []
  | k + 1, p, d => (List.range b.toNat).flatMap (fun (x : Nat) => TLs b k (p + 1) (up d p (x : Int)))
def TLp (b : Int) (k : Nat) (p : Int) (d : Int → Int) (x : Int) : List Int := (List.range x.toNat).flatMap (fun (y : Nat) => TLs b k (p + 1) (up d p (y : Int)))
theorem TLp_0 {b : Int} {k : Nat} {p : Int} {d : Int → Int} : TLp b k p d 0 = [] := rfl
theorem TLp_s {b : Int} {k : Nat} {p x : Int} {d : Int → Int} (hx : 0 ≤ x) : TLp b k p d (x + 1) = TLp b k p d x ++ TLs b k (p + 1) (up d p x) := by
  unfold TLp
  rw [show (x + 1).toNat = x.toNat + 1 by omega, List.range_succ, List.flatMap_append]
  simp only [List.flatMap_cons, List.flatMap_nil, List.append_nil]
  rw [Int.toNat_of_nonneg hx]
theorem TLs_congr {b : Int} : ∀ (k : Nat) (p : Int) (d d' : Int → Int), 0 ≤ p → p + k = b → (∀ j, 0 ≤ j → j < p → d j = d' j) → TLs b k p d = TLs b k p d' := by
  intro k
  induction k with
  | zero =>
    intro p d d' h0 hp hh
    have hh' : ∀ j, 0 ≤ j → j < b → d j = d' j := fun j j0 j1 => hh j j0 (by omega)
    have e : tellB d b = tellB d' b := by
      rw [Bool.eq_iff_iff, tellB_iff, tellB_iff]
      exact ⟨TellR_congr hh', TellR_congr (fun j j0 j1 => (hh' j j0 j1).symm)⟩
    rw [TLs, TLs, e, cd_congr (by omega) hh']
  | succ k ih =>
    intro p d d' h0 hp hh
    rw [TLs, TLs]
    congr 1
    funext x
    refine ih (p + 1) _ _ (by omega) (by omega) (fun j j0 j1 => ?_)
    by_cases hj : j = p
    · rw [hj, up_s, up_s]
    · rw [up_n _ _ hj, up_n _ _ hj]
      exact hh j j0 (by omega)
theorem sm_up {d : Int → Int} {p x : Int} (w : Int → Int → Int) (hp : 0 ≤ p) : sm (fun j => w j (up d p x j)) (p + 1) = sm (fun j => w j (d j)) p + w p x := by
  rw [sm_s hp, up_s]
  congr 1
  exact sm_congr (fun j j0 j1 => by rw [up_n _ _ (by omega)])
/-- what is over the base leads to no teller -/
theorem TLs_over {b : Int} (hb : 0 ≤ b) : ∀ (k : Nat) (p : Int) (d : Int → Int), 0 ≤ p → p + k = b → (∀ j, 0 ≤ j → j < p → 0 ≤ d j ∧ d j < b) → (b < sm d p ∨ b < sm (fun j => j * d j) p) → TLs b k p d = [] := by
  intro k
  induction k with
  | zero =>
    intro p d h0 hp hd ho
    have hpb : p = b := by omega
    subst hpb
    rw [TLs]
    split
    · rename_i h
      have := tell_sum hb hd (tellB_iff.mp h)
      omega
    · rfl
  | succ k ih =>
    intro p d h0 hp hd ho
    rw [TLs]
    refine List.flatMap_eq_nil_iff.mpr (fun x hx => ?_)
    have hx1 := List.mem_range.mp hx
    refine ih (p + 1) _ (by omega) (by omega) (fun j j0 j1 => ?_) ?_
    · by_cases hj : j = p
      · rw [hj, up_s]
        omega
      · rw [up_n _ _ hj]
        exact hd j j0 (by omega)
    · have e1 := sm_up (d := d) (p := p) (x := (x : Int)) (fun _ y => y) h0
      have e2 := sm_up (d := d) (p := p) (x := (x : Int)) (fun j y => j * y) h0
      have e3 : 0 ≤ p * (x : Int) := Int.mul_nonneg h0 (by omega)
      rcases ho with ho | ho
      · left
        have : sm (up d p x) (p + 1) = sm d p + x := e1
        omega
      · right
        have : sm (fun j => j * up d p x j) (p + 1) = sm (fun j => j * d j) p + p * x := e2
        omega
theorem TLp_rest {b : Int} (hb : 0 ≤ b) {k : Nat} {p x : Int} {d : Int → Int} (h0 : 0 ≤ p) (hp : p + (k + 1 : Nat) = b) (hd : ∀ j, 0 ≤ j → j < p → 0 ≤ d j ∧ d j < b) (hx : 0 ≤ x) (hxb : x ≤ b) (ho : x = b ∨ b < sm d p + x ∨ b < sm (fun j => j * d j) p + x * p) : TLs b (k + 1) p d = TLp b k p d x := by
  have key := sm_ind (P := fun i => x + i ≤ b → TLp b k p d (x + i) = TLp b k p d x) (b - x) (fun _ => by rw [Int.add_zero]) (fun i i0 i1 ih hi => by
    rw [show x + (i + 1) = (x + i) + 1 by omega, TLp_s (by omega), ih (by omega), TLs_over hb k (p + 1) _ (by omega) (by omega) (fun j j0 j1 => by
      by_cases hj : j = p
      · rw [hj, up_s]
        omega
      · rw [up_n _ _ hj]
        exact hd j j0 (by omega)) ?_, List.append_nil]
    have e1 : sm (up d p (x + i)) (p + 1) = sm d p + (x + i) := sm_up (fun _ y => y) h0
    have e2 : sm (fun j => j * up d p (x + i) j) (p + 1) = sm (fun j => j * d j) p + p * (x + i) := sm_up (fun j y => j * y) h0
    rcases ho with ho | ho | ho
    · omega
    · left
      omega
    · right
      rw [e2, Int.mul_add, Int.mul_comm p x]
      have : 0 ≤ p * i := Int.mul_nonneg h0 i0
      omega) (by omega)
  have := key (by omega)
  rw [show x + (b - x) = b by omega] at this
  rw [← this]
  rfl
/-- the i-th of a list, else a -/
def pick (L : List Int) (i a : Int) : Int := if 0 ≤ i then (L[i.toNat]?).getD a else a
theorem pick_nil {i a : Int} : pick [] i a = a := by
  unfold pick
  split <;> rfl
theorem pick_one {i a x : Int} : pick [x] i a = if i = 0 then x else a := by
  unfold pick
  by_cases h : i = 0
  · subst h
    rfl
  · rw [if_neg h]
    by_cases h2 : 0 ≤ i
    · rw [if_pos h2, List.getElem?_eq_none (by simp; omega)]
      rfl
    · rw [if_neg h2]
theorem pick_app {L M : List Int} {i a : Int} : pick (L ++ M) i a = pick M (i - L.length) (pick L i a) := by
  unfold pick
  by_cases h : 0 ≤ i
  · rw [if_pos h, if_pos h]
    by_cases h2 : i.toNat < L.length
    · rw [List.getElem?_append_left h2, if_neg (by omega), List.getElem?_eq_getElem h2]
    · rw [List.getElem?_append_right (by omega), if_pos (by omega), List.getElem?_eq_none (l := L) (by omega), show (i - (L.length : Int)).toNat = i.toNat - L.length by omega]
      rfl
  · rw [if_neg h, if_neg h, if_neg (by omega)]
theorem TLs_len {b : Int} (hb : 0 ≤ b) (hb2 : b ≤ 10) : ∀ (k : Nat) (p : Int) (d : Int → Int), ((TLs b k p d).length : Int) ≤ 10 ^ k := by
  intro k
  induction k with
  | zero =>
    intro p d
    rw [TLs]
    split <;> simp
  | succ k ih =>
    intro p d
    rw [TLs]
    have key : ∀ n : Nat, (((List.range n).flatMap (fun (x : Nat) => TLs b k (p + 1) (up d p (x : Int)))).length : Int) ≤ n * 10 ^ k := by
      intro n
      induction n with
      | zero => simp
      | succ n ihn =>
        rw [List.range_succ, List.flatMap_append]
        simp only [List.flatMap_cons, List.flatMap_nil, List.append_nil, List.length_append, Int.natCast_add]
        have := ih (p + 1) (up d p n)
        rw [Int.add_mul]
        omega
    have h1 := key b.toNat
    have h2 : (b.toNat : Int) * 10 ^ k ≤ 10 * 10 ^ k := Int.mul_le_mul_of_nonneg_right (by omega) (Int.pow_nonneg (by omega))
    rw [Int.pow_succ, Int.mul_comm]
    omega
end
