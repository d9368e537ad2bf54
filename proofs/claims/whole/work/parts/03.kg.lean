/-! what a method takes as known beside its cells: the classes, the row classes, the nest's links, the enum's constants, the two static rows -/
abbrev GG : Type := va_G × (Nat → ClassId) × (Nat → Nat)
abbrev tysG (G : GG) : List (ClassId × FieldType) := [(G.2.1 0, .int), (G.2.1 1, .byte), (G.2.1 2, .boolean), (G.2.1 3, .object RX5), (G.2.1 4, .object RX6)]
def nw_L : List Cond := [.fieldLinkNest RX5 42 "TellingRows$Item" "beginnings" "LTellingRows$Sequence;" "TellingRows",
  .fieldLinkNest RX2 43 "TellingRows$Row" "beginnings" "LTellingRows$Sequence;" "TellingRows",
  .fieldLinkNest RX10 117 "TellingRows$Row" "beginnings" "LTellingRows$Sequence;" "TellingRows",
  .fieldLinkNest RX2 30 "TellingRows$Row" "numbers" "[I" "TellingRows",
  .fieldLinkNest RX2 35 "TellingRows$Row" "sort" "LTellingRows$Sort;" "TellingRows",
  .fieldLinkNest RX10 107 "TellingRows$Row" "sort" "LTellingRows$Sort;" "TellingRows",
  .fieldLinkNest RX2 65 "TellingRows$Row" "made" "Z" "TellingRows",
  .fieldLinkNest RX10 202 "TellingRows$Row" "made" "Z" "TellingRows",
  .fieldLinkNest RX2 61 "TellingRows$Row" "length" "I" "TellingRows",
  .fieldLinkNest RX10 143 "TellingRows$Row" "length" "I" "TellingRows",
  .fieldLinkNest RX1 31 "TellingRows" "SORTS" "[LTellingRows$Sort;" "TellingRows",
  .fieldLinkNest RX10 111 "TellingRows$Sort" "code" "I" "TellingRows",
  .methodLinkNest RX10 17 yX3_init "TellingRows",
  .methodLinkNest RX10 42 yX1_init "TellingRows",
  .methodLinkNest RX10 55 yX8_init "TellingRows",
  .methodLinkNest RX10 69 yX9_init "TellingRows",
  .methodLinkNest RX2 57 yX10_isNumber "TellingRows"]
def NW (U : State) : Prop := va_Nw (.fieldLinkNest RX5 42 "TellingRows$Item" "beginnings" "LTellingRows$Sequence;" "TellingRows") U ∧ va_Nw (.fieldLinkNest RX2 43 "TellingRows$Row" "beginnings" "LTellingRows$Sequence;" "TellingRows") U ∧ va_Nw (.fieldLinkNest RX10 117 "TellingRows$Row" "beginnings" "LTellingRows$Sequence;" "TellingRows") U ∧ va_Nw (.fieldLinkNest RX2 30 "TellingRows$Row" "numbers" "[I" "TellingRows") U ∧ va_Nw (.fieldLinkNest RX2 35 "TellingRows$Row" "sort" "LTellingRows$Sort;" "TellingRows") U ∧ va_Nw (.fieldLinkNest RX10 107 "TellingRows$Row" "sort" "LTellingRows$Sort;" "TellingRows") U ∧ va_Nw (.fieldLinkNest RX2 65 "TellingRows$Row" "made" "Z" "TellingRows") U ∧ va_Nw (.fieldLinkNest RX10 202 "TellingRows$Row" "made" "Z" "TellingRows") U ∧ va_Nw (.fieldLinkNest RX2 61 "TellingRows$Row" "length" "I" "TellingRows") U ∧ va_Nw (.fieldLinkNest RX10 143 "TellingRows$Row" "length" "I" "TellingRows") U ∧ va_Nw (.fieldLinkNest RX1 31 "TellingRows" "SORTS" "[LTellingRows$Sort;" "TellingRows") U ∧ va_Nw (.fieldLinkNest RX10 111 "TellingRows$Sort" "code" "I" "TellingRows") U ∧ va_Nw (.methodLinkNest RX10 17 yX3_init "TellingRows") U ∧ va_Nw (.methodLinkNest RX10 42 yX1_init "TellingRows") U ∧ va_Nw (.methodLinkNest RX10 55 yX8_init "TellingRows") U ∧ va_Nw (.methodLinkNest RX10 69 yX9_init "TellingRows") U ∧ va_Nw (.methodLinkNest RX2 57 yX10_isNumber "TellingRows") U
theorem NW.warm {s U : State} (hW : s.WarmedH U.vm) (h : NW s) : NW U := by
  obtain ⟨h0, h1, h2, h3, h4, h5, h6, h7, h8, h9, h10, h11, h12, h13, h14, h15, h16⟩ := h
  exact ⟨va_Nw.warmF hW h0, va_Nw.warmF hW h1, va_Nw.warmF hW h2, va_Nw.warmF hW h3, va_Nw.warmF hW h4, va_Nw.warmF hW h5, va_Nw.warmF hW h6, va_Nw.warmF hW h7, va_Nw.warmF hW h8, va_Nw.warmF hW h9, va_Nw.warmF hW h10, va_Nw.warmF hW h11, va_Nw.warmM hW h12, va_Nw.warmM hW h13, va_Nw.warmM hW h14, va_Nw.warmM hW h15, va_Nw.warmM hW h16⟩
theorem NW.same {u U : State} (hU : u.vm = U.vm) (h : NW u) : NW U := by
  obtain ⟨h0, h1, h2, h3, h4, h5, h6, h7, h8, h9, h10, h11, h12, h13, h14, h15, h16⟩ := h
  exact ⟨h0.same rfl hU, h1.same rfl hU, h2.same rfl hU, h3.same rfl hU, h4.same rfl hU, h5.same rfl hU, h6.same rfl hU, h7.same rfl hU, h8.same rfl hU, h9.same rfl hU, h10.same rfl hU, h11.same rfl hU, h12.same rfl hU, h13.same rfl hU, h14.same rfl hU, h15.same rfl hU, h16.same rfl hU⟩
theorem nw_f_RX5_42 {U : State} (h : NW U) : va_Nw (.fieldLinkNest RX5 42 "TellingRows$Item" "beginnings" "LTellingRows$Sequence;" "TellingRows") U := h.1
theorem nw_f_RX2_43 {U : State} (h : NW U) : va_Nw (.fieldLinkNest RX2 43 "TellingRows$Row" "beginnings" "LTellingRows$Sequence;" "TellingRows") U := h.2.1
theorem nw_f_RX10_117 {U : State} (h : NW U) : va_Nw (.fieldLinkNest RX10 117 "TellingRows$Row" "beginnings" "LTellingRows$Sequence;" "TellingRows") U := h.2.2.1
theorem nw_f_RX2_30 {U : State} (h : NW U) : va_Nw (.fieldLinkNest RX2 30 "TellingRows$Row" "numbers" "[I" "TellingRows") U := h.2.2.2.1
theorem nw_f_RX2_35 {U : State} (h : NW U) : va_Nw (.fieldLinkNest RX2 35 "TellingRows$Row" "sort" "LTellingRows$Sort;" "TellingRows") U := h.2.2.2.2.1
theorem nw_f_RX10_107 {U : State} (h : NW U) : va_Nw (.fieldLinkNest RX10 107 "TellingRows$Row" "sort" "LTellingRows$Sort;" "TellingRows") U := h.2.2.2.2.2.1
theorem nw_f_RX2_65 {U : State} (h : NW U) : va_Nw (.fieldLinkNest RX2 65 "TellingRows$Row" "made" "Z" "TellingRows") U := h.2.2.2.2.2.2.1
theorem nw_f_RX10_202 {U : State} (h : NW U) : va_Nw (.fieldLinkNest RX10 202 "TellingRows$Row" "made" "Z" "TellingRows") U := h.2.2.2.2.2.2.2.1
theorem nw_f_RX2_61 {U : State} (h : NW U) : va_Nw (.fieldLinkNest RX2 61 "TellingRows$Row" "length" "I" "TellingRows") U := h.2.2.2.2.2.2.2.2.1
theorem nw_f_RX10_143 {U : State} (h : NW U) : va_Nw (.fieldLinkNest RX10 143 "TellingRows$Row" "length" "I" "TellingRows") U := h.2.2.2.2.2.2.2.2.2.1
theorem nw_f_RX1_31 {U : State} (h : NW U) : va_Nw (.fieldLinkNest RX1 31 "TellingRows" "SORTS" "[LTellingRows$Sort;" "TellingRows") U := h.2.2.2.2.2.2.2.2.2.2.1
theorem nw_f_RX10_111 {U : State} (h : NW U) : va_Nw (.fieldLinkNest RX10 111 "TellingRows$Sort" "code" "I" "TellingRows") U := h.2.2.2.2.2.2.2.2.2.2.2.1
theorem nw_m_RX10_17 {U : State} (h : NW U) : va_Nw (.methodLinkNest RX10 17 yX3_init "TellingRows") U := h.2.2.2.2.2.2.2.2.2.2.2.2.1
theorem nw_m_RX10_42 {U : State} (h : NW U) : va_Nw (.methodLinkNest RX10 42 yX1_init "TellingRows") U := h.2.2.2.2.2.2.2.2.2.2.2.2.2.1
theorem nw_m_RX10_55 {U : State} (h : NW U) : va_Nw (.methodLinkNest RX10 55 yX8_init "TellingRows") U := h.2.2.2.2.2.2.2.2.2.2.2.2.2.2.1
theorem nw_m_RX10_69 {U : State} (h : NW U) : va_Nw (.methodLinkNest RX10 69 yX9_init "TellingRows") U := h.2.2.2.2.2.2.2.2.2.2.2.2.2.2.2.1
theorem nw_m_RX2_57 {U : State} (h : NW U) : va_Nw (.methodLinkNest RX2 57 yX10_isNumber "TellingRows") U := h.2.2.2.2.2.2.2.2.2.2.2.2.2.2.2.2
abbrev nmS : List String := ["REACH", "FOLD", "BACK", "AGAIN", "SUMS", "SO_FAR", "FREE"]
abbrev flS : List (String × String × String × List Int32) := [("java/lang/Enum", "ordinal", "I", [0, 1, 2, 3, 4, 5, 6]), (RX7, "code", "I", [0, 1, 2, 3, 4, 5, 6]), (RX7, "fewest", "I", [2, 2, 1, 1, 2, 1, 0]), (RX7, "most", "I", [6, 6, 6, 6, 2, 6, 6]), (RX7, "lowest", "I", [1, 1, 0, 1, 1, 0, 0]), (RX7, "highest", "I", [9, 9, 99, 9, 20, 9, 99])]
def KG (G : GG) (A : Nat → Prop) (U : State) (H : Heap) : Prop := va_K G.1 vwCl (tysG G) U ∧ NW U ∧ va_En RX7 "LTellingRows$Sort;" nmS flS G.2.2 A U H ∧
  (va_Z RX10 "SORTS" "[LTellingRows$Sort;" (.ref (G.2.2 7)) A U H ∧ va_T (.object RX7) (G.2.2 7) 7 (fun j => .ref (G.2.2 j)) A U H) ∧
  (va_Z RX0 "$SwitchMap$TellingRows$Sort" "[I" (.ref (G.2.2 8)) A U H ∧ va_T .int (G.2.2 8) 7 (fun j => .int (iI (j + 1))) A U H)
theorem KG.blind {G : GG} {A : Nat → Prop} {U U' : State} (hv : U.vm = U'.vm) (h : KG G A U U.heap) (hh : U'.heap = U.heap) : KG G A U' U'.heap := by
  obtain ⟨h1, h2, h3, ⟨h4, h5⟩, h6, h7⟩ := h
  have ha : U.vm.Alike U'.vm := by rw [← hv]; exact Vm.Alike.refl U.vm
  rw [hh]
  exact ⟨h1.moved ha, h2.same hv, h3.moved ha, ⟨h4.moved ha, h5.moved ha⟩, h6.moved ha, h7.moved ha⟩
theorem KG.call {G : GG} {A B : Nat → Prop} {s U : State} {H : Heap} {locs : List Loc} (h : KG G A s s.heap) (hS : va_S A s.heap H locs) (hAB : ∀ q, B q → A q) (hW : s.WarmedH U.vm) (hU : U.heap = H) : KG G B U U.heap := by
  obtain ⟨h1, h2, h3, ⟨h4, h5⟩, h6, h7⟩ := h
  have hk : ∀ a : Nat, a < s.heap.size → ¬ A a → H[a]? = s.heap[a]? := fun a q1 q2 => hS.2.1 a q1 q2
  rw [hU]
  exact ⟨h1.moved hW.alike, h2.warm hW, ((h3.kept hk).narrow hAB).moved hW.alike, ⟨((h4.kept hk).narrow hAB).moved hW.alike, ((h5.kept hk).narrow hAB).moved hW.alike⟩, ((h6.kept hk).narrow hAB).moved hW.alike, ((h7.kept hk).narrow hAB).moved hW.alike⟩
/-- the world as the walk has it: the cells, apart and free to write, all else as at the start -/
def Wd (G : GG) (A : Nat → Prop) (H0 : Heap) (ws : va_W) (H : Heap) (locs : List Loc) : Prop := va_P G.1 vwCl ws H ∧ va_D A ws ∧ va_S A H0 H locs
/-- a method's start: its arguments, its cells, what is known -/
def zPre (G : GG) (av : List Value) (w : va_W) (sz : Nat) : Array Value → State → Prop := va_Pc av (fun U => U.heap.size = sz ∧ va_P G.1 vwCl w U.heap ∧ KG G (va_A w sz) U U.heap ∧ va_D (fun _ => True) w)
/-- a method's end: what it answers, its cells anew, nothing else written -/
def zQ {S : Type} (G : GG) (A : Nat → Prop) (post : Option Value → S → Prop) (w' : S → va_W) : Array Value → State → Outcome → State → Prop := fun _ st oc t => (∃ (r : Option Value) (u : S), oc = .returned r ∧ post r u ∧ va_P G.1 vwCl (w' u) t.heap) ∧ va_F A st t
/-- the end of a method that writes nothing -/
def zR (post : Option Value → Prop) : Array Value → State → Outcome → State → Prop := fun _ st oc t => ∃ r : Option Value, oc = .returned r ∧ post r ∧ t.heap = st.heap
/-- room by levels -/
abbrev rmL (n : Nat) : Room := { frames := n, cells := 0, slots := 0, locals := 64 * n }
/-- a method's contract: what it answers, its cells anew -/
def MQc (l : Launch) (y : MethodName) (ws : List Cond) (lev : Nat) (G : GG) (av : List Value) (w : va_W) {S : Type} (post : Option Value → S → Prop) (w' : S → va_W) : Prop := ∀ sz : Nat, Met l y ws (rmL lev) (zPre G av w sz) (zQ G (va_A w sz) post w') 0 0 (va_A w sz)
/-- the same of a method that writes nothing -/
def MRc (l : Launch) (y : MethodName) (ws : List Cond) (lev : Nat) (G : GG) (av : List Value) (w : va_W) (post : Option Value → Prop) : Prop := ∀ sz : Nat, Met l y ws (rmL lev) (zPre G av w sz) (zR post) 0 0 (fun _ => False)
theorem zPre.blind {G : GG} {av : List Value} {w : va_W} {sz : Nat} : FrameBlind (zPre G av w sz) := fun a U g mk q => by
  obtain ⟨q1, q2, q3, q4, q5⟩ := q
  exact ⟨q1, q2, q3, KG.blind (U := U) rfl q4 rfl, q5⟩

