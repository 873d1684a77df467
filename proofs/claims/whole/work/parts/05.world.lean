abbrev mtys (tc : Nat → ClassId) : List (ClassId × FieldType) := [(tc 0, .int), (tc 1, .long), (tc 2, .boolean), (tc 3, .object "RulePayroll$Person"), (tc 4, .object "RulePayroll$Table")]
def mm_layL : List mm_Sh := [.inr (5, [.inr (.inr (some 1)), .inr (.inr (some 13)), .inr (.inr (some 14))]), .inr (2, [.inr (.inr (some 2)), .inr (.inr (some 10)), .inr (.inr (some 11)), .inr (.inr (some 12))]), .inr (0, [.inr (.inr (some 3)), .inr (.inr (some 4)), .inr (.inr (some 5)), .inr (.inr (some 6)), .inr (.inr (some 7)), .inr (.inr (some 8)), .inr (.inr (some 9)), .inl ()]), .inl (0, 70, .inl ()), .inl (0, 70, .inl ()), .inl (0, 70, .inl ()), .inl (0, 70, .inl ()), .inl (0, 70, .inl ()), .inl (0, 70, .inl ()), .inl (0, 70, .inl ()), .inl (0, 8, .inl ()), .inl (4, 2, .inr (.inr (fun j => some (18 + j)))), .inl (1, 70, .inr (.inl ())), .inl (3, 6, .inr (.inr (fun j => some (24 + j)))), .inr (3, [.inr (.inr (some 15)), .inr (.inr (some 16)), .inr (.inr (some 17)), .inl ()]), .inl (1, 288, .inr (.inl ())), .inl (0, 96, .inl ()), .inl (2, 16, .inl ()), .inr (4, [.inr (.inr (some 20)), .inr (.inr (some 22)), .inl ()]), .inr (4, [.inr (.inr (some 21)), .inr (.inr (some 23)), .inl ()]), .inl (0, 5, .inl ()), .inl (0, 5, .inl ()), .inl (0, 5, .inl ()), .inl (0, 5, .inl ()), .inr (1, [.inr (.inr (some 30)), .inr (.inl ()), .inr (.inl ()), .inl ()]), .inr (1, [.inr (.inr (some 31)), .inr (.inl ()), .inr (.inl ()), .inl ()]), .inr (1, [.inr (.inr (some 32)), .inr (.inl ()), .inr (.inl ()), .inl ()]), .inr (1, [.inr (.inr (some 33)), .inr (.inl ()), .inr (.inl ()), .inl ()]), .inr (1, [.inr (.inr (some 34)), .inr (.inl ()), .inr (.inl ()), .inl ()]), .inr (1, [.inr (.inr (some 35)), .inr (.inl ()), .inr (.inl ()), .inl ()]), .inl (0, 8, .inl ()), .inl (0, 8, .inl ()), .inl (0, 8, .inl ()), .inl (0, 8, .inl ()), .inl (0, 8, .inl ()), .inl (0, 8, .inl ()), .inr (6, [.inl (), .inl (), .inr (.inr (some 37)), .inr (.inr (some 38)), .inr (.inr (some 39)), .inr (.inr (some 40)), .inr (.inr (some 41)), .inr (.inr (some 42)), .inr (.inr (some 43)), .inr (.inr (some 44)), .inr (.inr (some 45)), .inr (.inr (some 46)), .inr (.inr (some 47)), .inr (.inr (some 48)), .inr (.inr (some 49)), .inr (.inr (some 50)), .inr (.inr (some 51)), .inr (.inr (some 52)), .inr (.inr (some 53)), .inr (.inr (some 54)), .inr (.inr (some 55))]), .inl (0, 70, .inl ()), .inl (0, 70, .inl ()), .inl (0, 70, .inl ()), .inl (0, 70, .inl ()), .inl (0, 70, .inl ()), .inl (0, 70, .inl ()), .inl (0, 8, .inl ()), .inl (0, 2, .inl ()), .inl (0, 10, .inl ()), .inl (0, 10, .inl ()), .inl (0, 48, .inl ()), .inl (2, 6, .inl ()), .inl (2, 16, .inl ()), .inl (2, 96, .inl ()), .inl (0, 96, .inl ()), .inl (1, 288, .inr (.inl ())), .inl (1, 12, .inr (.inl ())), .inl (1, 70, .inr (.inl ())), .inl (1, 8, .inr (.inl ()))]
def mm_lay (t : Nat) : mm_Sh := mm_layL.getD t (.inr (0, []))
abbrev mm_N : Nat := 56
theorem ly_N_TB {p : Nat} (hp : p < 2) : 18 + p < mm_N := by show 18 + p < 56; omega
theorem ly_TB {p : Nat} (hp : p < 2) : mm_lay (18 + p) = .inr (4, [.inr (.inr (some (20 + p))), .inr (.inr (some (22 + p))), .inl ()]) := by
  obtain rfl | rfl : p = 0 ∨ p = 1 := by omega
  · rfl
  · rfl
theorem ly_N_LIM {p : Nat} (hp : p < 2) : 20 + p < mm_N := by show 20 + p < 56; omega
theorem ly_LIM {p : Nat} (hp : p < 2) : mm_lay (20 + p) = .inl (0, 5, .inl ()) := by
  obtain rfl | rfl : p = 0 ∨ p = 1 := by omega
  · rfl
  · rfl
theorem ly_N_RAT {p : Nat} (hp : p < 2) : 22 + p < mm_N := by show 22 + p < 56; omega
theorem ly_RAT {p : Nat} (hp : p < 2) : mm_lay (22 + p) = .inl (0, 5, .inl ()) := by
  obtain rfl | rfl : p = 0 ∨ p = 1 := by omega
  · rfl
  · rfl
theorem ly_N_PS {p : Nat} (hp : p < 6) : 24 + p < mm_N := by show 24 + p < 56; omega
theorem ly_PS {p : Nat} (hp : p < 6) : mm_lay (24 + p) = .inr (1, [.inr (.inr (some (30 + p))), .inr (.inl ()), .inr (.inl ()), .inl ()]) := by
  obtain rfl | rfl | rfl | rfl | rfl | rfl : p = 0 ∨ p = 1 ∨ p = 2 ∨ p = 3 ∨ p = 4 ∨ p = 5 := by omega
  · rfl
  · rfl
  · rfl
  · rfl
  · rfl
  · rfl
theorem ly_N_INP {p : Nat} (hp : p < 6) : 30 + p < mm_N := by show 30 + p < 56; omega
theorem ly_INP {p : Nat} (hp : p < 6) : mm_lay (30 + p) = .inl (0, 8, .inl ()) := by
  obtain rfl | rfl | rfl | rfl | rfl | rfl : p = 0 ∨ p = 1 ∨ p = 2 ∨ p = 3 ∨ p = 4 ∨ p = 5 := by omega
  · rfl
  · rfl
  · rfl
  · rfl
  · rfl
  · rfl
def zb (v : Int32) : Prop := v = 0 ∨ v = 1
theorem zb_n {v : Int32} (h : zb v) : narrow .boolean (.int v) = .int v := by rcases h with rfl | rfl <;> decide
theorem zb_f {v : Int32} (h : zb v) : fits .boolean (.int v) = true := by rcases h with rfl | rfl <;> decide
theorem mm_lt {i : Int32} {n : Nat} (h : vp_in i n) : i.toNatClampNeg < n := Nat.not_le.mp fun q => h (Or.inr q)
abbrev mm_G : Type := va_G × (Nat → ClassId) × (Nat → Nat) × (Nat → Prop) × (Nat → Nat)
abbrev mm_PW (G : mm_G) (I : mm_I) (L : mm_L) (H : Heap) : Prop := va_P G.1 vwCl (mm_wl mm_N G.2.1 G.2.2.1 mm_lay I L) H
abbrev mm_DW (G : mm_G) (I : mm_I) (L : mm_L) : Prop := va_D G.2.2.2.1 (mm_wl mm_N G.2.1 G.2.2.1 mm_lay I L)
def mm_nw (U : State) : Prop := va_Nw (.methodLinkNest "RulePayroll$Rules" 11 ⟨"RulePayroll$Nodes", "<init>", "()V"⟩ "RulePayroll") U ∧ va_Nw (.methodLinkNest "RulePayroll$Rules" 38 ⟨"RulePayroll$Table", "<init>", "()V"⟩ "RulePayroll") U ∧ va_Nw (.methodLinkNest "RulePayroll" 22 ⟨"RulePayroll$Person", "<init>", "()V"⟩ "RulePayroll") U ∧ va_Nw (.methodLinkNest "RulePayroll" 25 ⟨"RulePayroll$Runs", "<init>", "()V"⟩ "RulePayroll") U ∧ va_Nw (.methodLinkNest "RulePayroll$Nodes" 37 ⟨"RulePayroll", "within", "(II)Z"⟩ "RulePayroll") U ∧ va_Nw (.fieldLinkNest "RulePayroll$Nodes" 65 "RulePayroll" "NODE_OPERANDS" "[I" "RulePayroll") U ∧ va_Nw (.methodLinkNest "RulePayroll$Runs" 27 ⟨"RulePayroll", "within", "(II)Z"⟩ "RulePayroll") U ∧ va_AO "RulePayroll$Table" U ∧ va_AO "RulePayroll$Person" U
theorem nw_0 {U : State} (h : mm_nw U) : va_Nw (.methodLinkNest "RulePayroll$Rules" 11 ⟨"RulePayroll$Nodes", "<init>", "()V"⟩ "RulePayroll") U := h.1
theorem nw_1 {U : State} (h : mm_nw U) : va_Nw (.methodLinkNest "RulePayroll$Rules" 38 ⟨"RulePayroll$Table", "<init>", "()V"⟩ "RulePayroll") U := h.2.1
theorem nw_2 {U : State} (h : mm_nw U) : va_Nw (.methodLinkNest "RulePayroll" 22 ⟨"RulePayroll$Person", "<init>", "()V"⟩ "RulePayroll") U := h.2.2.1
theorem nw_3 {U : State} (h : mm_nw U) : va_Nw (.methodLinkNest "RulePayroll" 25 ⟨"RulePayroll$Runs", "<init>", "()V"⟩ "RulePayroll") U := h.2.2.2.1
theorem nw_4 {U : State} (h : mm_nw U) : va_Nw (.methodLinkNest "RulePayroll$Nodes" 37 ⟨"RulePayroll", "within", "(II)Z"⟩ "RulePayroll") U := h.2.2.2.2.1
theorem nw_5 {U : State} (h : mm_nw U) : va_Nw (.fieldLinkNest "RulePayroll$Nodes" 65 "RulePayroll" "NODE_OPERANDS" "[I" "RulePayroll") U := h.2.2.2.2.2.1
theorem nw_6 {U : State} (h : mm_nw U) : va_Nw (.methodLinkNest "RulePayroll$Runs" 27 ⟨"RulePayroll", "within", "(II)Z"⟩ "RulePayroll") U := h.2.2.2.2.2.2.1
theorem nw_7 {U : State} (h : mm_nw U) : va_AO "RulePayroll$Table" U := h.2.2.2.2.2.2.2.1
theorem nw_8 {U : State} (h : mm_nw U) : va_AO "RulePayroll$Person" U := h.2.2.2.2.2.2.2.2
theorem mm_nw_warm {s U : State} (hW : s.WarmedH U.vm) (h : mm_nw s) : mm_nw U := ⟨va_Nw.warmM hW (nw_0 h), va_Nw.warmM hW (nw_1 h), va_Nw.warmM hW (nw_2 h), va_Nw.warmM hW (nw_3 h), va_Nw.warmM hW (nw_4 h), va_Nw.warmF hW (nw_5 h), va_Nw.warmM hW (nw_6 h), va_AO.moved hW.alike (nw_7 h), va_AO.moved hW.alike (nw_8 h)⟩
theorem mm_nw_same {u U : State} (hvm : u.vm = U.vm) (h : mm_nw u) : mm_nw U := ⟨va_Nw.same rfl hvm (nw_0 h), va_Nw.same rfl hvm (nw_1 h), va_Nw.same rfl hvm (nw_2 h), va_Nw.same rfl hvm (nw_3 h), va_Nw.same rfl hvm (nw_4 h), va_Nw.same rfl hvm (nw_5 h), va_Nw.same rfl hvm (nw_6 h), va_AO.moved (hvm ▸ Vm.Alike.refl u.vm) (nw_7 h), va_AO.moved (hvm ▸ Vm.Alike.refl u.vm) (nw_8 h)⟩
def tb_no (j : Nat) : Int32 := ([0, 0, 0, 0, 3, 3, 3, 3, 3, 3, 3, 7, 1, 3, 3, 7, 0, 7, 3, 2] : List Int32).getD j 0
def mm_cs (G : mm_G) (U : State) (H : Heap) : Prop := va_Z "RulePayroll" "NODE_OPERANDS" "[I" (.ref (G.2.2.2.2 0)) G.2.2.2.1 U H ∧ va_T .int (G.2.2.2.2 0) 20 (fun j => .int (tb_no j)) G.2.2.2.1 U H ∧ mm_nw U
def mm_B (G : mm_G) (I : mm_I) (L : mm_L) (U : State) : Prop := mm_PW G I L U.heap ∧ va_K G.1 vwCl (mtys G.2.1) U ∧ mm_DW G I L ∧ mm_cs G U U.heap
abbrev mm_pre (G : mm_G) (av : List Value) (I : mm_I) (L : mm_L) : Array Value → State → Prop := va_Pc av (mm_B G I L)
abbrev mm_qi (G : mm_G) (Q : Int32 → mm_I → mm_L → Prop) : Array Value → State → Outcome → State → Prop := va_Qi (S := mm_I × mm_L) (fun r u => Q r u.1 u.2) (fun u t => mm_PW G u.1 u.2 t.heap) G.2.2.2.1
abbrev mm_ql (G : mm_G) (Q : Int64 → mm_I → mm_L → Prop) : Array Value → State → Outcome → State → Prop := va_Ql (S := mm_I × mm_L) (fun r u => Q r u.1 u.2) (fun u t => mm_PW G u.1 u.2 t.heap) G.2.2.2.1
abbrev mm_qv (G : mm_G) (Q : mm_I → mm_L → Prop) : Array Value → State → Outcome → State → Prop := va_Qv (S := mm_I × mm_L) (fun u => Q u.1 u.2) (fun u t => mm_PW G u.1 u.2 t.heap) G.2.2.2.1
def mm_cx (cc : ByteArray) (ret : Option FieldType) (nL : Nat) (own : String) (G : mm_G) (p : Program) (s : State) (m : MethodId) (args : Array Value) (meth : Method) (c : Code) : Prop := p.tables.exec = Jvm.exec ∧ c.code = cc ∧ meth.sig.returnType = ret ∧ meth.locks = false ∧ c.maxLocals = nL ∧ s.vm.findClass own = some m.cls ∧ (∀ w ∈ mm_GW, w.before args s = true) ∧ va_K G.1 vwCl (mtys G.2.1) s ∧ mm_cs G s s.heap
theorem mm_mv {G : mm_G} {I : mm_I} {L : mm_L} {t : State} {H : Heap} (e : t.heap = H) (h : mm_PW G I L H) : mm_PW G I L t.heap := by rw [e]; exact h
theorem mm_blind {G : mm_G} {av : List Value} {I : mm_I} {L : mm_L} : FrameBlind (mm_pre G av I L) := by
  intro a U g mk q
  obtain ⟨q0, qP, qK, qD, qZ, qT, qN⟩ := q
  exact ⟨q0, qP, va_K.moved (u := U) (U := U.calling g mk a) (Vm.Alike.refl U.vm) qK, qD, va_Z.moved (u := U) (U := U.calling g mk a) (Vm.Alike.refl U.vm) qZ, va_T.moved (u := U) (U := U.calling g mk a) (Vm.Alike.refl U.vm) qT, mm_nw_same rfl qN⟩
theorem mm_call {G : mm_G} {av : List Value} {I : mm_I} {L : mm_L} {s U : State} {H : Heap} {locs : List Loc} (hP : mm_PW G I L H) (hK : va_K G.1 vwCl (mtys G.2.1) s) (hD : mm_DW G I L) (hC : mm_cs G s s.heap) (hU : U.heap = H) (hS : va_S G.2.2.2.1 s.heap H locs) (hW : s.WarmedH U.vm) : mm_pre G av I L av.toArray U := by
  refine ⟨rfl, by rw [hU]; exact hP, va_K.moved hW.alike hK, hD, ?_, ?_, mm_nw_warm hW hC.2.2⟩
  · rw [hU]
    exact (va_Z.moved hW.alike hC.1).kept (fun a h1 h2 => hS.2.1 a h1 h2)
  · rw [hU]
    exact (va_T.moved hW.alike hC.2.1).kept (fun a h1 h2 => hS.2.1 a h1 h2)
theorem mm_recv {G : mm_G} {I : mm_I} {L : mm_L} {s : State} {H : Heap} {ci t : Nat} {ds : List mm_Kd} {q : vw_C} (hK : va_K G.1 vwCl (mtys G.2.1) s) (hP : mm_PW G I L H) (ht : t < mm_N) (hl : mm_lay t = .inr (ci, ds)) (hc : vwCl[ci]? = some q) : ∃ cell : Cell, H[G.2.2.1 t]? = some cell ∧ cell.vm.isStatics = false ∧ s.vm.findClass q.1 = some cell.cls :=
  va_recv hK hP hc (q0 := t) (fs := mm_fl G.2.2.1 (I t) (L t) 0 ds) (by rw [mm_wl_at ht, hl]; rfl)
