-- ===== PART A: goes FIRST, ahead of the names: the tables' words, and 'selects' of the private methods out of them =====
/-- a private method of a class that the tables say can be made, by its rows of tables_1 -/
def lw_okq (q : MethodName × Nat) : Prop := (q.1.cls ≠ "java/lang/invoke/MethodHandle" ∧ q.1.cls ≠ "java/lang/invoke/VarHandle") ∧ Cond.instantiable q.1.cls q.2 ∈ tables_1 ∧ Cond.privateMethod q.1 ∈ tables_1 ∧ Cond.instanceMethod q.1 ∈ tables_1
theorem lw_p0 : lw_okq (⟨"RulePayroll$Nodes", "operandsFit", "(IIII)Z"⟩, 8) := ⟨⟨by decide +kernel, by decide +kernel⟩, List.mem_of_getElem? (i := 26) (by decide +kernel), List.mem_of_getElem? (i := 171) (by decide +kernel), List.mem_of_getElem? (i := 172) (by decide +kernel)⟩
theorem lw_p1 : lw_okq (⟨"RulePayroll$Nodes", "firstFits", "(II)Z"⟩, 8) := ⟨⟨by decide +kernel, by decide +kernel⟩, List.mem_of_getElem? (i := 26) (by decide +kernel), List.mem_of_getElem? (i := 175) (by decide +kernel), List.mem_of_getElem? (i := 176) (by decide +kernel)⟩
theorem lw_p2 : lw_okq (⟨"RulePayroll$Nodes", "levelOf", "(I)I"⟩, 8) := ⟨⟨by decide +kernel, by decide +kernel⟩, List.mem_of_getElem? (i := 26) (by decide +kernel), List.mem_of_getElem? (i := 188) (by decide +kernel), List.mem_of_getElem? (i := 189) (by decide +kernel)⟩
theorem lw_p3 : lw_okq (⟨"RulePayroll$Nodes", "rankOf", "(I)I"⟩, 8) := ⟨⟨by decide +kernel, by decide +kernel⟩, List.mem_of_getElem? (i := 26) (by decide +kernel), List.mem_of_getElem? (i := 195) (by decide +kernel), List.mem_of_getElem? (i := 196) (by decide +kernel)⟩
theorem lw_p4 : lw_okq (⟨"RulePayroll$Nodes", "putInOrder", "(I)V"⟩, 8) := ⟨⟨by decide +kernel, by decide +kernel⟩, List.mem_of_getElem? (i := 26) (by decide +kernel), List.mem_of_getElem? (i := 199) (by decide +kernel), List.mem_of_getElem? (i := 200) (by decide +kernel)⟩
theorem lw_p5 : lw_okq (⟨"RulePayroll$Rules", "workedOut", "(ILRulePayroll$Person;)J"⟩, 4) := ⟨⟨by decide +kernel, by decide +kernel⟩, List.mem_of_getElem? (i := 20) (by decide +kernel), List.mem_of_getElem? (i := 255) (by decide +kernel), List.mem_of_getElem? (i := 256) (by decide +kernel)⟩
theorem lw_p6 : lw_okq (⟨"RulePayroll$Rules", "workedOrEmpty", "(I)J"⟩, 4) := ⟨⟨by decide +kernel, by decide +kernel⟩, List.mem_of_getElem? (i := 20) (by decide +kernel), List.mem_of_getElem? (i := 263) (by decide +kernel), List.mem_of_getElem? (i := 264) (by decide +kernel)⟩
theorem lw_p7 : lw_okq (⟨"RulePayroll", "payAll", "(I)V"⟩, 3) := ⟨⟨by decide +kernel, by decide +kernel⟩, List.mem_of_getElem? (i := 12) (by decide +kernel), List.mem_of_getElem? (i := 327) (by decide +kernel), List.mem_of_getElem? (i := 328) (by decide +kernel)⟩
theorem lw_p8 : lw_okq (⟨"RulePayroll", "payOne", "(II)V"⟩, 3) := ⟨⟨by decide +kernel, by decide +kernel⟩, List.mem_of_getElem? (i := 12) (by decide +kernel), List.mem_of_getElem? (i := 347) (by decide +kernel), List.mem_of_getElem? (i := 348) (by decide +kernel)⟩
theorem lw_p9 : lw_okq (⟨"RulePayroll", "unpayAll", "(I)V"⟩, 3) := ⟨⟨by decide +kernel, by decide +kernel⟩, List.mem_of_getElem? (i := 12) (by decide +kernel), List.mem_of_getElem? (i := 380) (by decide +kernel), List.mem_of_getElem? (i := 381) (by decide +kernel)⟩
theorem lw_p10 : lw_okq (⟨"RulePayroll$Runs", "totalOfRun", "(II)J"⟩, 4) := ⟨⟨by decide +kernel, by decide +kernel⟩, List.mem_of_getElem? (i := 127) (by decide +kernel), List.mem_of_getElem? (i := 418) (by decide +kernel), List.mem_of_getElem? (i := 419) (by decide +kernel)⟩
theorem lw_p11 : lw_okq (⟨"RulePayroll", "howManyActive", "()I"⟩, 3) := ⟨⟨by decide +kernel, by decide +kernel⟩, List.mem_of_getElem? (i := 12) (by decide +kernel), List.mem_of_getElem? (i := 441) (by decide +kernel), List.mem_of_getElem? (i := 442) (by decide +kernel)⟩
theorem lw_p12 : lw_okq (⟨"RulePayrollModel", "fits", "(IIII)Z"⟩, 21) := ⟨⟨by decide +kernel, by decide +kernel⟩, List.mem_of_getElem? (i := 449) (by decide +kernel), List.mem_of_getElem? (i := 523) (by decide +kernel), List.mem_of_getElem? (i := 524) (by decide +kernel)⟩
theorem lw_p13 : lw_okq (⟨"RulePayrollModel", "out", "(III)Z"⟩, 21) := ⟨⟨by decide +kernel, by decide +kernel⟩, List.mem_of_getElem? (i := 449) (by decide +kernel), List.mem_of_getElem? (i := 527) (by decide +kernel), List.mem_of_getElem? (i := 528) (by decide +kernel)⟩
theorem lw_p14 : lw_okq (⟨"RulePayrollModel", "named", "(I)I"⟩, 21) := ⟨⟨by decide +kernel, by decide +kernel⟩, List.mem_of_getElem? (i := 449) (by decide +kernel), List.mem_of_getElem? (i := 531) (by decide +kernel), List.mem_of_getElem? (i := 532) (by decide +kernel)⟩
theorem lw_p15 : lw_okq (⟨"RulePayrollModel", "isNode", "(I)Z"⟩, 21) := ⟨⟨by decide +kernel, by decide +kernel⟩, List.mem_of_getElem? (i := 449) (by decide +kernel), List.mem_of_getElem? (i := 535) (by decide +kernel), List.mem_of_getElem? (i := 536) (by decide +kernel)⟩
def lw_privs_1 : List (MethodName × Nat) := [(⟨"RulePayroll$Nodes", "operandsFit", "(IIII)Z"⟩, 8), (⟨"RulePayroll$Nodes", "firstFits", "(II)Z"⟩, 8), (⟨"RulePayroll$Nodes", "levelOf", "(I)I"⟩, 8), (⟨"RulePayroll$Nodes", "rankOf", "(I)I"⟩, 8), (⟨"RulePayroll$Nodes", "putInOrder", "(I)V"⟩, 8), (⟨"RulePayroll$Rules", "workedOut", "(ILRulePayroll$Person;)J"⟩, 4), (⟨"RulePayroll$Rules", "workedOrEmpty", "(I)J"⟩, 4), (⟨"RulePayroll", "payAll", "(I)V"⟩, 3), (⟨"RulePayroll", "payOne", "(II)V"⟩, 3), (⟨"RulePayroll", "unpayAll", "(I)V"⟩, 3), (⟨"RulePayroll$Runs", "totalOfRun", "(II)J"⟩, 4), (⟨"RulePayroll", "howManyActive", "()I"⟩, 3), (⟨"RulePayrollModel", "fits", "(IIII)Z"⟩, 21), (⟨"RulePayrollModel", "out", "(III)Z"⟩, 21), (⟨"RulePayrollModel", "named", "(I)I"⟩, 21), (⟨"RulePayrollModel", "isNode", "(I)Z"⟩, 21)]
theorem lw_r1 : ∀ q ∈ lw_privs_1, lw_okq q := List.forall_mem_cons.mpr ⟨lw_p0, List.forall_mem_cons.mpr ⟨lw_p1, List.forall_mem_cons.mpr ⟨lw_p2, List.forall_mem_cons.mpr ⟨lw_p3, List.forall_mem_cons.mpr ⟨lw_p4, List.forall_mem_cons.mpr ⟨lw_p5, List.forall_mem_cons.mpr ⟨lw_p6, List.forall_mem_cons.mpr ⟨lw_p7, List.forall_mem_cons.mpr ⟨lw_p8, List.forall_mem_cons.mpr ⟨lw_p9, List.forall_mem_cons.mpr ⟨lw_p10, List.forall_mem_cons.mpr ⟨lw_p11, List.forall_mem_cons.mpr ⟨lw_p12, List.forall_mem_cons.mpr ⟨lw_p13, List.forall_mem_cons.mpr ⟨lw_p14, List.forall_mem_cons.mpr ⟨lw_p15, fun _ h => absurd h List.not_mem_nil⟩⟩⟩⟩⟩⟩⟩⟩⟩⟩⟩⟩⟩⟩⟩⟩
theorem lw_p16 : lw_okq (⟨"RulePayrollModel", "high", "(IZI)I"⟩, 21) := ⟨⟨by decide +kernel, by decide +kernel⟩, List.mem_of_getElem? (i := 449) (by decide +kernel), List.mem_of_getElem? (i := 539) (by decide +kernel), List.mem_of_getElem? (i := 540) (by decide +kernel)⟩
theorem lw_p17 : lw_okq (⟨"RulePayrollModel", "paidWhole", "(I)Z"⟩, 21) := ⟨⟨by decide +kernel, by decide +kernel⟩, List.mem_of_getElem? (i := 449) (by decide +kernel), List.mem_of_getElem? (i := 571) (by decide +kernel), List.mem_of_getElem? (i := 572) (by decide +kernel)⟩
theorem lw_p18 : lw_okq (⟨"RulePayrollModel", "whole", "(J)Z"⟩, 21) := ⟨⟨by decide +kernel, by decide +kernel⟩, List.mem_of_getElem? (i := 449) (by decide +kernel), List.mem_of_getElem? (i := 575) (by decide +kernel), List.mem_of_getElem? (i := 576) (by decide +kernel)⟩
theorem lw_p19 : lw_okq (⟨"RulePayrollModel", "person", "(I)V"⟩, 21) := ⟨⟨by decide +kernel, by decide +kernel⟩, List.mem_of_getElem? (i := 449) (by decide +kernel), List.mem_of_getElem? (i := 582) (by decide +kernel), List.mem_of_getElem? (i := 583) (by decide +kernel)⟩
theorem lw_p20 : lw_okq (⟨"RulePayrollModel", "workOut", "(II)J"⟩, 21) := ⟨⟨by decide +kernel, by decide +kernel⟩, List.mem_of_getElem? (i := 449) (by decide +kernel), List.mem_of_getElem? (i := 587) (by decide +kernel), List.mem_of_getElem? (i := 588) (by decide +kernel)⟩
theorem lw_p21 : lw_okq (⟨"RulePayrollModel", "choose", "(II)J"⟩, 21) := ⟨⟨by decide +kernel, by decide +kernel⟩, List.mem_of_getElem? (i := 449) (by decide +kernel), List.mem_of_getElem? (i := 591) (by decide +kernel), List.mem_of_getElem? (i := 592) (by decide +kernel)⟩
theorem lw_p22 : lw_okq (⟨"RulePayrollModel", "stops", "(J)J"⟩, 21) := ⟨⟨by decide +kernel, by decide +kernel⟩, List.mem_of_getElem? (i := 449) (by decide +kernel), List.mem_of_getElem? (i := 598) (by decide +kernel), List.mem_of_getElem? (i := 599) (by decide +kernel)⟩
theorem lw_p23 : lw_okq (⟨"RulePayrollModel", "scale", "(IJ)J"⟩, 21) := ⟨⟨by decide +kernel, by decide +kernel⟩, List.mem_of_getElem? (i := 449) (by decide +kernel), List.mem_of_getElem? (i := 602) (by decide +kernel), List.mem_of_getElem? (i := 603) (by decide +kernel)⟩
theorem lw_p24 : lw_okq (⟨"RulePayrollModel", "rounded", "(JJ)J"⟩, 21) := ⟨⟨by decide +kernel, by decide +kernel⟩, List.mem_of_getElem? (i := 449) (by decide +kernel), List.mem_of_getElem? (i := 607) (by decide +kernel), List.mem_of_getElem? (i := 608) (by decide +kernel)⟩
theorem lw_p25 : lw_okq (⟨"RulePayrollModel", "ranged", "(J)J"⟩, 21) := ⟨⟨by decide +kernel, by decide +kernel⟩, List.mem_of_getElem? (i := 449) (by decide +kernel), List.mem_of_getElem? (i := 612) (by decide +kernel), List.mem_of_getElem? (i := 613) (by decide +kernel)⟩
theorem lw_p26 : lw_okq (⟨"RulePayrollModel", "plain", "(IJJ)J"⟩, 21) := ⟨⟨by decide +kernel, by decide +kernel⟩, List.mem_of_getElem? (i := 449) (by decide +kernel), List.mem_of_getElem? (i := 617) (by decide +kernel), List.mem_of_getElem? (i := 618) (by decide +kernel)⟩
theorem lw_p27 : lw_okq (⟨"RulePayrollModel", "payAll", "(I)V"⟩, 21) := ⟨⟨by decide +kernel, by decide +kernel⟩, List.mem_of_getElem? (i := 449) (by decide +kernel), List.mem_of_getElem? (i := 625) (by decide +kernel), List.mem_of_getElem? (i := 626) (by decide +kernel)⟩
theorem lw_p28 : lw_okq (⟨"RulePayrollModel", "payOne", "(II)I"⟩, 21) := ⟨⟨by decide +kernel, by decide +kernel⟩, List.mem_of_getElem? (i := 449) (by decide +kernel), List.mem_of_getElem? (i := 629) (by decide +kernel), List.mem_of_getElem? (i := 630) (by decide +kernel)⟩
theorem lw_p29 : lw_okq (⟨"RulePayrollModel", "takeBack", "(I)V"⟩, 21) := ⟨⟨by decide +kernel, by decide +kernel⟩, List.mem_of_getElem? (i := 449) (by decide +kernel), List.mem_of_getElem? (i := 637) (by decide +kernel), List.mem_of_getElem? (i := 638) (by decide +kernel)⟩
theorem lw_p30 : lw_okq (⟨"RulePayrollModel", "slips", "(I)I"⟩, 21) := ⟨⟨by decide +kernel, by decide +kernel⟩, List.mem_of_getElem? (i := 449) (by decide +kernel), List.mem_of_getElem? (i := 645) (by decide +kernel), List.mem_of_getElem? (i := 646) (by decide +kernel)⟩
def lw_privs_2 : List (MethodName × Nat) := [(⟨"RulePayrollModel", "high", "(IZI)I"⟩, 21), (⟨"RulePayrollModel", "paidWhole", "(I)Z"⟩, 21), (⟨"RulePayrollModel", "whole", "(J)Z"⟩, 21), (⟨"RulePayrollModel", "person", "(I)V"⟩, 21), (⟨"RulePayrollModel", "workOut", "(II)J"⟩, 21), (⟨"RulePayrollModel", "choose", "(II)J"⟩, 21), (⟨"RulePayrollModel", "stops", "(J)J"⟩, 21), (⟨"RulePayrollModel", "scale", "(IJ)J"⟩, 21), (⟨"RulePayrollModel", "rounded", "(JJ)J"⟩, 21), (⟨"RulePayrollModel", "ranged", "(J)J"⟩, 21), (⟨"RulePayrollModel", "plain", "(IJJ)J"⟩, 21), (⟨"RulePayrollModel", "payAll", "(I)V"⟩, 21), (⟨"RulePayrollModel", "payOne", "(II)I"⟩, 21), (⟨"RulePayrollModel", "takeBack", "(I)V"⟩, 21), (⟨"RulePayrollModel", "slips", "(I)I"⟩, 21)]
theorem lw_r2 : ∀ q ∈ lw_privs_2, lw_okq q := List.forall_mem_cons.mpr ⟨lw_p16, List.forall_mem_cons.mpr ⟨lw_p17, List.forall_mem_cons.mpr ⟨lw_p18, List.forall_mem_cons.mpr ⟨lw_p19, List.forall_mem_cons.mpr ⟨lw_p20, List.forall_mem_cons.mpr ⟨lw_p21, List.forall_mem_cons.mpr ⟨lw_p22, List.forall_mem_cons.mpr ⟨lw_p23, List.forall_mem_cons.mpr ⟨lw_p24, List.forall_mem_cons.mpr ⟨lw_p25, List.forall_mem_cons.mpr ⟨lw_p26, List.forall_mem_cons.mpr ⟨lw_p27, List.forall_mem_cons.mpr ⟨lw_p28, List.forall_mem_cons.mpr ⟨lw_p29, List.forall_mem_cons.mpr ⟨lw_p30, fun _ h => absurd h List.not_mem_nil⟩⟩⟩⟩⟩⟩⟩⟩⟩⟩⟩⟩⟩⟩⟩
def lw_privs : List (MethodName × Nat) := lw_privs_1 ++ (lw_privs_2)
def lw_tbl : List Cond := k2_sels lw_privs ++ tables_1
theorem lw_privs_ok : ∀ q ∈ lw_privs, lw_okq q := by
  show ∀ q ∈ lw_privs_1 ++ (lw_privs_2), lw_okq q
  exact List.forall_mem_append.mpr ⟨lw_r1, lw_r2⟩

def mm_GW : List Cond := lw_tbl.filter goodWord
theorem mm_in {w : Cond} (h : w ∈ lw_tbl) (g : goodWord w = true) : w ∈ mm_GW := List.mem_filter.mpr ⟨h, g⟩
theorem mm_GW_tbl : ∀ w ∈ mm_GW, w ∈ lw_tbl := fun _ h => (List.mem_filter.mp h).1
theorem mm_GW_self : GoodIn mm_GW mm_GW := fun w h => ⟨h, good_of_word (List.mem_filter.mp h).2⟩
theorem mm_GW_law : GoodIn lw_tbl mm_GW := fun w h => ⟨(List.mem_filter.mp h).1, good_of_word (List.mem_filter.mp h).2⟩
theorem mm_g1 {w : Cond} {ws : List Cond} (h : w ∈ mm_GW) (hs : GoodIn mm_GW ws) : GoodIn mm_GW (w :: ws) := fun x hx => (List.mem_cons.mp hx).elim (fun q => q ▸ mm_GW_self w h) (hs x)
theorem mm_gV {own C : String} {idx : Nat} {y : MethodName} {cw : Cond} (h1 : Cond.methodLink own idx y ∈ mm_GW) (h2 : Cond.instanceMethod y ∈ mm_GW) (h3 : Cond.selects C y y ∈ mm_GW) (h4 : Cond.initialized C ∈ mm_GW) (h5 : cw ∈ mm_GW) : GoodIn mm_GW (wsV own idx C y (cw :: mm_GW)) := mm_g1 h1 (mm_g1 h2 (mm_g1 h3 (mm_g1 h4 (mm_g1 h5 mm_GW_self))))
theorem mm_gS {own : String} {idx : Nat} {y : MethodName} {cw : Cond} (h1 : Cond.methodLink own idx y ∈ mm_GW) (h2 : Cond.static y ∈ mm_GW) (h4 : Cond.initialized y.cls ∈ mm_GW) (h5 : cw ∈ mm_GW) : GoodIn mm_GW (va_wsS own idx y (cw :: mm_GW)) := mm_g1 h1 (mm_g1 h2 (mm_g1 h4 (mm_g1 h5 mm_GW_self)))
abbrev RX6 : String := "RulePayroll"
abbrev RX7 : String := "RulePayrollModel"
abbrev RX0 : String := "RulePayroll$Nodes"
abbrev RX1 : String := "RulePayroll$Person"
abbrev RX2 : String := "RulePayroll$Rules"
abbrev RX3 : String := "RulePayroll$Runs"
abbrev RX4 : String := "RulePayroll$Table"
abbrev RX5 : String := "RulePayroll$Values"
abbrev RL : String := "RulePayrollLaw"
abbrev RJ7 : String := "java/util/Arrays"
def TX0 : u_T := fun k => match k with
  | 0 => ("RulePayroll$Nodes", "kinds", "[I", true)
  | 1 => ("RulePayroll$Nodes", "as", "[I", true)
  | 2 => ("RulePayroll$Nodes", "bs", "[I", true)
  | 3 => ("RulePayroll$Nodes", "cs", "[I", true)
  | 4 => ("RulePayroll$Nodes", "levels", "[I", true)
  | 5 => ("RulePayroll$Nodes", "ranks", "[I", true)
  | 6 => ("RulePayroll$Nodes", "order", "[I", true)
  | _ => ("RulePayroll$Nodes", "made", "I", false)
def tyX0 : Nat → FieldType := fun k => match k with
  | 0 => .array .int
  | 1 => .array .int
  | 2 => .array .int
  | 3 => .array .int
  | 4 => .array .int
  | 5 => .array .int
  | 6 => .array .int
  | _ => .int
theorem nmX0 : ∀ a, a < 8 → ∀ b, b < 8 → a ≠ b → (TX0 a).2.1 ≠ (TX0 b).2.1 := by decide +kernel
theorem tyX0_ok : ∀ k, k < 8 → parseFieldDescriptor (TX0 k).2.2.1 = some (tyX0 k) := by decide +kernel
theorem in_X0 : ∀ w ∈ u_ws RX0 TX0 8, w ∈ mm_GW := by
  have h : (u_ws RX0 TX0 8).all (fun w => decide (w ∈ lw_tbl) && goodWord w) = true := by decide +kernel
  intro w hw
  have h1 := List.all_eq_true.mp h w hw
  simp only [Bool.and_eq_true, decide_eq_true_eq] at h1
  exact mm_in h1.1 h1.2
def TX1 : u_T := fun k => match k with
  | 0 => ("RulePayroll$Person", "inputs", "[I", true)
  | 1 => ("RulePayroll$Person", "grossPaid", "J", false)
  | 2 => ("RulePayroll$Person", "taxPaid", "J", false)
  | _ => ("RulePayroll$Person", "active", "Z", false)
def tyX1 : Nat → FieldType := fun k => match k with
  | 0 => .array .int
  | 1 => .long
  | 2 => .long
  | _ => .boolean
theorem nmX1 : ∀ a, a < 4 → ∀ b, b < 4 → a ≠ b → (TX1 a).2.1 ≠ (TX1 b).2.1 := by decide +kernel
theorem tyX1_ok : ∀ k, k < 4 → parseFieldDescriptor (TX1 k).2.2.1 = some (tyX1 k) := by decide +kernel
theorem in_X1 : ∀ w ∈ u_ws RX1 TX1 4, w ∈ mm_GW := by
  have h : (u_ws RX1 TX1 4).all (fun w => decide (w ∈ lw_tbl) && goodWord w) = true := by decide +kernel
  intro w hw
  have h1 := List.all_eq_true.mp h w hw
  simp only [Bool.and_eq_true, decide_eq_true_eq] at h1
  exact mm_in h1.1 h1.2
def TX2 : u_T := fun k => match k with
  | 0 => ("RulePayroll$Rules", "nodes", "LRulePayroll$Nodes;", true)
  | 1 => ("RulePayroll$Rules", "definitions", "[I", true)
  | 2 => ("RulePayroll$Rules", "tables", "[LRulePayroll$Table;", true)
  | _ => ("RulePayroll$Rules", "worked", "[J", true)
def tyX2 : Nat → FieldType := fun k => match k with
  | 0 => .object "RulePayroll$Nodes"
  | 1 => .array .int
  | 2 => .array (.object "RulePayroll$Table")
  | _ => .array .long
theorem nmX2 : ∀ a, a < 4 → ∀ b, b < 4 → a ≠ b → (TX2 a).2.1 ≠ (TX2 b).2.1 := by decide +kernel
theorem tyX2_ok : ∀ k, k < 4 → parseFieldDescriptor (TX2 k).2.2.1 = some (tyX2 k) := by decide +kernel
theorem in_X2 : ∀ w ∈ u_ws RX2 TX2 4, w ∈ mm_GW := by
  have h : (u_ws RX2 TX2 4).all (fun w => decide (w ∈ lw_tbl) && goodWord w) = true := by decide +kernel
  intro w hw
  have h1 := List.all_eq_true.mp h w hw
  simp only [Bool.and_eq_true, decide_eq_true_eq] at h1
  exact mm_in h1.1 h1.2
def TX3 : u_T := fun k => match k with
  | 0 => ("RulePayroll$Runs", "amounts", "[J", true)
  | 1 => ("RulePayroll$Runs", "reasons", "[I", true)
  | 2 => ("RulePayroll$Runs", "takenBack", "[Z", true)
  | _ => ("RulePayroll$Runs", "made", "I", false)
def tyX3 : Nat → FieldType := fun k => match k with
  | 0 => .array .long
  | 1 => .array .int
  | 2 => .array .boolean
  | _ => .int
theorem nmX3 : ∀ a, a < 4 → ∀ b, b < 4 → a ≠ b → (TX3 a).2.1 ≠ (TX3 b).2.1 := by decide +kernel
theorem tyX3_ok : ∀ k, k < 4 → parseFieldDescriptor (TX3 k).2.2.1 = some (tyX3 k) := by decide +kernel
theorem in_X3 : ∀ w ∈ u_ws RX3 TX3 4, w ∈ mm_GW := by
  have h : (u_ws RX3 TX3 4).all (fun w => decide (w ∈ lw_tbl) && goodWord w) = true := by decide +kernel
  intro w hw
  have h1 := List.all_eq_true.mp h w hw
  simp only [Bool.and_eq_true, decide_eq_true_eq] at h1
  exact mm_in h1.1 h1.2
def TX4 : u_T := fun k => match k with
  | 0 => ("RulePayroll$Table", "limits", "[I", true)
  | 1 => ("RulePayroll$Table", "rates", "[I", true)
  | _ => ("RulePayroll$Table", "steps", "I", false)
def tyX4 : Nat → FieldType := fun k => match k with
  | 0 => .array .int
  | 1 => .array .int
  | _ => .int
theorem nmX4 : ∀ a, a < 3 → ∀ b, b < 3 → a ≠ b → (TX4 a).2.1 ≠ (TX4 b).2.1 := by decide +kernel
theorem tyX4_ok : ∀ k, k < 3 → parseFieldDescriptor (TX4 k).2.2.1 = some (tyX4 k) := by decide +kernel
theorem in_X4 : ∀ w ∈ u_ws RX4 TX4 3, w ∈ mm_GW := by
  have h : (u_ws RX4 TX4 3).all (fun w => decide (w ∈ lw_tbl) && goodWord w) = true := by decide +kernel
  intro w hw
  have h1 := List.all_eq_true.mp h w hw
  simp only [Bool.and_eq_true, decide_eq_true_eq] at h1
  exact mm_in h1.1 h1.2
def TX6 : u_T := fun k => match k with
  | 0 => ("RulePayroll", "rules", "LRulePayroll$Rules;", true)
  | 1 => ("RulePayroll", "persons", "[LRulePayroll$Person;", true)
  | _ => ("RulePayroll", "runs", "LRulePayroll$Runs;", true)
def tyX6 : Nat → FieldType := fun k => match k with
  | 0 => .object "RulePayroll$Rules"
  | 1 => .array (.object "RulePayroll$Person")
  | _ => .object "RulePayroll$Runs"
theorem nmX6 : ∀ a, a < 3 → ∀ b, b < 3 → a ≠ b → (TX6 a).2.1 ≠ (TX6 b).2.1 := by decide +kernel
theorem tyX6_ok : ∀ k, k < 3 → parseFieldDescriptor (TX6 k).2.2.1 = some (tyX6 k) := by decide +kernel
theorem in_X6 : ∀ w ∈ u_ws RX6 TX6 3, w ∈ mm_GW := by
  have h : (u_ws RX6 TX6 3).all (fun w => decide (w ∈ lw_tbl) && goodWord w) = true := by decide +kernel
  intro w hw
  have h1 := List.all_eq_true.mp h w hw
  simp only [Bool.and_eq_true, decide_eq_true_eq] at h1
  exact mm_in h1.1 h1.2
def TX7 : u_T := fun k => match k with
  | 0 => ("RulePayrollModel", "nodes", "I", false)
  | 1 => ("RulePayrollModel", "runs", "I", false)
  | 2 => ("RulePayrollModel", "kind", "[I", true)
  | 3 => ("RulePayrollModel", "opA", "[I", true)
  | 4 => ("RulePayrollModel", "opB", "[I", true)
  | 5 => ("RulePayrollModel", "opC", "[I", true)
  | 6 => ("RulePayrollModel", "level", "[I", true)
  | 7 => ("RulePayrollModel", "rank", "[I", true)
  | 8 => ("RulePayrollModel", "definition", "[I", true)
  | 9 => ("RulePayrollModel", "steps", "[I", true)
  | 10 => ("RulePayrollModel", "limit", "[I", true)
  | 11 => ("RulePayrollModel", "rate", "[I", true)
  | 12 => ("RulePayrollModel", "inputs", "[I", true)
  | 13 => ("RulePayrollModel", "active", "[Z", true)
  | 14 => ("RulePayrollModel", "taken", "[Z", true)
  | 15 => ("RulePayrollModel", "has", "[Z", true)
  | 16 => ("RulePayrollModel", "reason", "[I", true)
  | 17 => ("RulePayrollModel", "slip", "[J", true)
  | 18 => ("RulePayrollModel", "paid", "[J", true)
  | 19 => ("RulePayrollModel", "is", "[J", true)
  | _ => ("RulePayrollModel", "defined", "[J", true)
def tyX7 : Nat → FieldType := fun k => match k with
  | 0 => .int
  | 1 => .int
  | 2 => .array .int
  | 3 => .array .int
  | 4 => .array .int
  | 5 => .array .int
  | 6 => .array .int
  | 7 => .array .int
  | 8 => .array .int
  | 9 => .array .int
  | 10 => .array .int
  | 11 => .array .int
  | 12 => .array .int
  | 13 => .array .boolean
  | 14 => .array .boolean
  | 15 => .array .boolean
  | 16 => .array .int
  | 17 => .array .long
  | 18 => .array .long
  | 19 => .array .long
  | _ => .array .long
theorem nmX7 : ∀ a, a < 21 → ∀ b, b < 21 → a ≠ b → (TX7 a).2.1 ≠ (TX7 b).2.1 := by decide +kernel
theorem tyX7_ok : ∀ k, k < 21 → parseFieldDescriptor (TX7 k).2.2.1 = some (tyX7 k) := by decide +kernel
theorem in_X7 : ∀ w ∈ u_ws RX7 TX7 21, w ∈ mm_GW := by
  have h : (u_ws RX7 TX7 21).all (fun w => decide (w ∈ lw_tbl) && goodWord w) = true := by decide +kernel
  intro w hw
  have h1 := List.all_eq_true.mp h w hw
  simp only [Bool.and_eq_true, decide_eq_true_eq] at h1
  exact mm_in h1.1 h1.2
abbrev vwCl : List vw_C := [(RX0, TX0, 8), (RX1, TX1, 4), (RX2, TX2, 4), (RX3, TX3, 4), (RX4, TX4, 3), (RX6, TX6, 3), (RX7, TX7, 21)]
abbrev c_X6_init : ByteArray := prog_1_method_1_code
abbrev y_X6_init : MethodName := ⟨"RulePayroll", "<init>", "()V"⟩
abbrev cw_X6_init : Cond := .code y_X6_init c_X6_init 2 none
def w_X6_init : List Cond := cw_X6_init :: mm_GW
set_option maxRecDepth 100000 in
theorem kc_X6_init : cw_X6_init ∈ mm_GW := mm_in (List.mem_of_getElem? (i := 46) rfl) rfl
abbrev c_X6_node : ByteArray := prog_1_method_2_code
abbrev y_X6_node : MethodName := ⟨"RulePayroll", "node", "(IIII)I"⟩
abbrev cw_X6_node : Cond := .code y_X6_node c_X6_node 5 (some .int)
def w_X6_node : List Cond := cw_X6_node :: mm_GW
set_option maxRecDepth 100000 in
theorem kc_X6_node : cw_X6_node ∈ mm_GW := mm_in (List.mem_of_getElem? (i := 193) rfl) rfl
abbrev c_X6_define : ByteArray := prog_1_method_3_code
abbrev y_X6_define : MethodName := ⟨"RulePayroll", "define", "(II)I"⟩
abbrev cw_X6_define : Cond := .code y_X6_define c_X6_define 3 (some .int)
def w_X6_define : List Cond := cw_X6_define :: mm_GW
set_option maxRecDepth 100000 in
theorem kc_X6_define : cw_X6_define ∈ mm_GW := mm_in (List.mem_of_getElem? (i := 236) rfl) rfl
abbrev c_X6_undefine : ByteArray := prog_1_method_4_code
abbrev y_X6_undefine : MethodName := ⟨"RulePayroll", "undefine", "(I)I"⟩
abbrev cw_X6_undefine : Cond := .code y_X6_undefine c_X6_undefine 2 (some .int)
def w_X6_undefine : List Cond := cw_X6_undefine :: mm_GW
set_option maxRecDepth 100000 in
theorem kc_X6_undefine : cw_X6_undefine ∈ mm_GW := mm_in (List.mem_of_getElem? (i := 242) rfl) rfl
abbrev c_X6_step : ByteArray := prog_1_method_5_code
abbrev y_X6_step : MethodName := ⟨"RulePayroll", "step", "(III)I"⟩
abbrev cw_X6_step : Cond := .code y_X6_step c_X6_step 4 (some .int)
def w_X6_step : List Cond := cw_X6_step :: mm_GW
set_option maxRecDepth 100000 in
theorem kc_X6_step : cw_X6_step ∈ mm_GW := mm_in (List.mem_of_getElem? (i := 246) rfl) rfl
abbrev c_X6_clear : ByteArray := prog_1_method_6_code
abbrev y_X6_clear : MethodName := ⟨"RulePayroll", "clear", "(I)I"⟩
abbrev cw_X6_clear : Cond := .code y_X6_clear c_X6_clear 2 (some .int)
def w_X6_clear : List Cond := cw_X6_clear :: mm_GW
set_option maxRecDepth 100000 in
theorem kc_X6_clear : cw_X6_clear ∈ mm_GW := mm_in (List.mem_of_getElem? (i := 254) rfl) rfl
abbrev c_X6_input : ByteArray := prog_1_method_7_code
abbrev y_X6_input : MethodName := ⟨"RulePayroll", "input", "(III)I"⟩
abbrev cw_X6_input : Cond := .code y_X6_input c_X6_input 4 (some .int)
def w_X6_input : List Cond := cw_X6_input :: mm_GW
set_option maxRecDepth 100000 in
theorem kc_X6_input : cw_X6_input ∈ mm_GW := mm_in (List.mem_of_getElem? (i := 262) rfl) rfl
abbrev c_X6_activate : ByteArray := prog_1_method_8_code
abbrev y_X6_activate : MethodName := ⟨"RulePayroll", "activate", "(IZ)I"⟩
abbrev cw_X6_activate : Cond := .code y_X6_activate c_X6_activate 3 (some .int)
def w_X6_activate : List Cond := cw_X6_activate :: mm_GW
set_option maxRecDepth 100000 in
theorem kc_X6_activate : cw_X6_activate ∈ mm_GW := mm_in (List.mem_of_getElem? (i := 266) rfl) rfl
abbrev c_X6_value : ByteArray := prog_1_method_9_code
abbrev y_X6_value : MethodName := ⟨"RulePayroll", "value", "(II)J"⟩
abbrev cw_X6_value : Cond := .code y_X6_value c_X6_value 3 (some .long)
def w_X6_value : List Cond := cw_X6_value :: mm_GW
set_option maxRecDepth 100000 in
theorem kc_X6_value : cw_X6_value ∈ mm_GW := mm_in (List.mem_of_getElem? (i := 270) rfl) rfl
abbrev c_X6_pay : ByteArray := prog_1_method_10_code
abbrev y_X6_pay : MethodName := ⟨"RulePayroll", "pay", "()I"⟩
abbrev cw_X6_pay : Cond := .code y_X6_pay c_X6_pay 2 (some .int)
def w_X6_pay : List Cond := cw_X6_pay :: mm_GW
set_option maxRecDepth 100000 in
theorem kc_X6_pay : cw_X6_pay ∈ mm_GW := mm_in (List.mem_of_getElem? (i := 356) rfl) rfl
abbrev c_X6_back : ByteArray := prog_1_method_11_code
abbrev y_X6_back : MethodName := ⟨"RulePayroll", "back", "(I)I"⟩
abbrev cw_X6_back : Cond := .code y_X6_back c_X6_back 2 (some .int)
def w_X6_back : List Cond := cw_X6_back :: mm_GW
set_option maxRecDepth 100000 in
theorem kc_X6_back : cw_X6_back ∈ mm_GW := mm_in (List.mem_of_getElem? (i := 400) rfl) rfl
abbrev c_X6_again : ByteArray := prog_1_method_12_code
abbrev y_X6_again : MethodName := ⟨"RulePayroll", "again", "(I)I"⟩
abbrev cw_X6_again : Cond := .code y_X6_again c_X6_again 2 (some .int)
def w_X6_again : List Cond := cw_X6_again :: mm_GW
set_option maxRecDepth 100000 in
theorem kc_X6_again : cw_X6_again ∈ mm_GW := mm_in (List.mem_of_getElem? (i := 425) rfl) rfl
abbrev c_X6_slip : ByteArray := prog_1_method_13_code
abbrev y_X6_slip : MethodName := ⟨"RulePayroll", "slip", "(III)J"⟩
abbrev cw_X6_slip : Cond := .code y_X6_slip c_X6_slip 4 (some .long)
def w_X6_slip : List Cond := cw_X6_slip :: mm_GW
set_option maxRecDepth 100000 in
theorem kc_X6_slip : cw_X6_slip ∈ mm_GW := mm_in (List.mem_of_getElem? (i := 434) rfl) rfl
abbrev c_X6_held : ByteArray := prog_1_method_14_code
abbrev y_X6_held : MethodName := ⟨"RulePayroll", "held", "(II)I"⟩
abbrev cw_X6_held : Cond := .code y_X6_held c_X6_held 3 (some .int)
def w_X6_held : List Cond := cw_X6_held :: mm_GW
set_option maxRecDepth 100000 in
theorem kc_X6_held : cw_X6_held ∈ mm_GW := mm_in (List.mem_of_getElem? (i := 439) rfl) rfl
abbrev c_X6_account : ByteArray := prog_1_method_15_code
abbrev y_X6_account : MethodName := ⟨"RulePayroll", "account", "(I)J"⟩
abbrev cw_X6_account : Cond := .code y_X6_account c_X6_account 2 (some .long)
def w_X6_account : List Cond := cw_X6_account :: mm_GW
set_option maxRecDepth 100000 in
theorem kc_X6_account : cw_X6_account ∈ mm_GW := mm_in (List.mem_of_getElem? (i := 443) rfl) rfl
abbrev c_X6_paid : ByteArray := prog_1_method_16_code
abbrev y_X6_paid : MethodName := ⟨"RulePayroll", "paid", "(II)J"⟩
abbrev cw_X6_paid : Cond := .code y_X6_paid c_X6_paid 3 (some .long)
def w_X6_paid : List Cond := cw_X6_paid :: mm_GW
set_option maxRecDepth 100000 in
theorem kc_X6_paid : cw_X6_paid ∈ mm_GW := mm_in (List.mem_of_getElem? (i := 456) rfl) rfl
abbrev c_X6_count : ByteArray := prog_1_method_17_code
abbrev y_X6_count : MethodName := ⟨"RulePayroll", "count", "(I)I"⟩
abbrev cw_X6_count : Cond := .code y_X6_count c_X6_count 2 (some .int)
def w_X6_count : List Cond := cw_X6_count :: mm_GW
set_option maxRecDepth 100000 in
theorem kc_X6_count : cw_X6_count ∈ mm_GW := mm_in (List.mem_of_getElem? (i := 461) rfl) rfl
abbrev c_X6_within : ByteArray := prog_1_method_18_code
abbrev y_X6_within : MethodName := ⟨"RulePayroll", "within", "(II)Z"⟩
abbrev cw_X6_within : Cond := .code y_X6_within c_X6_within 2 (some .boolean)
def w_X6_within : List Cond := cw_X6_within :: mm_GW
set_option maxRecDepth 100000 in
theorem kc_X6_within : cw_X6_within ∈ mm_GW := mm_in (List.mem_of_getElem? (i := 200) rfl) rfl
abbrev c_X6_howManyActive : ByteArray := prog_1_method_19_code
abbrev y_X6_howManyActive : MethodName := ⟨"RulePayroll", "howManyActive", "()I"⟩
abbrev cw_X6_howManyActive : Cond := .code y_X6_howManyActive c_X6_howManyActive 3 (some .int)
def w_X6_howManyActive : List Cond := cw_X6_howManyActive :: mm_GW
set_option maxRecDepth 100000 in
theorem kc_X6_howManyActive : cw_X6_howManyActive ∈ mm_GW := mm_in (List.mem_of_getElem? (i := 474) rfl) rfl
abbrev c_X6_payAll : ByteArray := prog_1_method_20_code
abbrev y_X6_payAll : MethodName := ⟨"RulePayroll", "payAll", "(I)V"⟩
abbrev cw_X6_payAll : Cond := .code y_X6_payAll c_X6_payAll 3 none
def w_X6_payAll : List Cond := cw_X6_payAll :: mm_GW
set_option maxRecDepth 100000 in
theorem kc_X6_payAll : cw_X6_payAll ∈ mm_GW := mm_in (List.mem_of_getElem? (i := 360) rfl) rfl
abbrev c_X6_payOne : ByteArray := prog_1_method_21_code
abbrev y_X6_payOne : MethodName := ⟨"RulePayroll", "payOne", "(II)V"⟩
abbrev cw_X6_payOne : Cond := .code y_X6_payOne c_X6_payOne 11 none
def w_X6_payOne : List Cond := cw_X6_payOne :: mm_GW
set_option maxRecDepth 100000 in
theorem kc_X6_payOne : cw_X6_payOne ∈ mm_GW := mm_in (List.mem_of_getElem? (i := 380) rfl) rfl
abbrev c_X6_unpayAll : ByteArray := prog_1_method_22_code
abbrev y_X6_unpayAll : MethodName := ⟨"RulePayroll", "unpayAll", "(I)V"⟩
abbrev cw_X6_unpayAll : Cond := .code y_X6_unpayAll c_X6_unpayAll 3 none
def w_X6_unpayAll : List Cond := cw_X6_unpayAll :: mm_GW
set_option maxRecDepth 100000 in
theorem kc_X6_unpayAll : cw_X6_unpayAll ∈ mm_GW := mm_in (List.mem_of_getElem? (i := 413) rfl) rfl
abbrev c_X7_init : ByteArray := prog_9_method_1_code
abbrev y_X7_init : MethodName := ⟨"RulePayrollModel", "<init>", "()V"⟩
abbrev cw_X7_init : Cond := .code y_X7_init c_X7_init 2 none
def w_X7_init : List Cond := cw_X7_init :: mm_GW
set_option maxRecDepth 100000 in
theorem kc_X7_init : cw_X7_init ∈ mm_GW := mm_in (List.mem_of_getElem? (i := 483) rfl) rfl
abbrev c_X7_out : ByteArray := prog_9_method_2_code
abbrev y_X7_out : MethodName := ⟨"RulePayrollModel", "out", "(III)Z"⟩
abbrev cw_X7_out : Cond := .code y_X7_out c_X7_out 4 (some .boolean)
def w_X7_out : List Cond := cw_X7_out :: mm_GW
set_option maxRecDepth 100000 in
theorem kc_X7_out : cw_X7_out ∈ mm_GW := mm_in (List.mem_of_getElem? (i := 560) rfl) rfl
abbrev c_X7_isNode : ByteArray := prog_9_method_3_code
abbrev y_X7_isNode : MethodName := ⟨"RulePayrollModel", "isNode", "(I)Z"⟩
abbrev cw_X7_isNode : Cond := .code y_X7_isNode c_X7_isNode 2 (some .boolean)
def w_X7_isNode : List Cond := cw_X7_isNode :: mm_GW
set_option maxRecDepth 100000 in
theorem kc_X7_isNode : cw_X7_isNode ∈ mm_GW := mm_in (List.mem_of_getElem? (i := 568) rfl) rfl
abbrev c_X7_named : ByteArray := prog_9_method_4_code
abbrev y_X7_named : MethodName := ⟨"RulePayrollModel", "named", "(I)I"⟩
abbrev cw_X7_named : Cond := .code y_X7_named c_X7_named 2 (some .int)
def w_X7_named : List Cond := cw_X7_named :: mm_GW
set_option maxRecDepth 100000 in
theorem kc_X7_named : cw_X7_named ∈ mm_GW := mm_in (List.mem_of_getElem? (i := 564) rfl) rfl
abbrev c_X7_fits : ByteArray := prog_9_method_5_code
abbrev y_X7_fits : MethodName := ⟨"RulePayrollModel", "fits", "(IIII)Z"⟩
abbrev cw_X7_fits : Cond := .code y_X7_fits c_X7_fits 6 (some .boolean)
def w_X7_fits : List Cond := cw_X7_fits :: mm_GW
set_option maxRecDepth 100000 in
theorem kc_X7_fits : cw_X7_fits ∈ mm_GW := mm_in (List.mem_of_getElem? (i := 556) rfl) rfl
abbrev c_X7_high : ByteArray := prog_9_method_6_code
abbrev y_X7_high : MethodName := ⟨"RulePayrollModel", "high", "(IZI)I"⟩
abbrev cw_X7_high : Cond := .code y_X7_high c_X7_high 4 (some .int)
def w_X7_high : List Cond := cw_X7_high :: mm_GW
set_option maxRecDepth 100000 in
theorem kc_X7_high : cw_X7_high ∈ mm_GW := mm_in (List.mem_of_getElem? (i := 572) rfl) rfl
abbrev c_X7_node : ByteArray := prog_9_method_7_code
abbrev y_X7_node : MethodName := ⟨"RulePayrollModel", "node", "(IIII)I"⟩
abbrev cw_X7_node : Cond := .code y_X7_node c_X7_node 11 (some .int)
def w_X7_node : List Cond := cw_X7_node :: mm_GW
set_option maxRecDepth 100000 in
theorem kc_X7_node : cw_X7_node ∈ mm_GW := mm_in (List.mem_of_getElem? (i := 552) rfl) rfl
abbrev c_X7_define : ByteArray := prog_9_method_8_code
abbrev y_X7_define : MethodName := ⟨"RulePayrollModel", "define", "(II)I"⟩
abbrev cw_X7_define : Cond := .code y_X7_define c_X7_define 3 (some .int)
def w_X7_define : List Cond := cw_X7_define :: mm_GW
set_option maxRecDepth 100000 in
theorem kc_X7_define : cw_X7_define ∈ mm_GW := mm_in (List.mem_of_getElem? (i := 576) rfl) rfl
abbrev c_X7_undefine : ByteArray := prog_9_method_9_code
abbrev y_X7_undefine : MethodName := ⟨"RulePayrollModel", "undefine", "(I)I"⟩
abbrev cw_X7_undefine : Cond := .code y_X7_undefine c_X7_undefine 2 (some .int)
def w_X7_undefine : List Cond := cw_X7_undefine :: mm_GW
set_option maxRecDepth 100000 in
theorem kc_X7_undefine : cw_X7_undefine ∈ mm_GW := mm_in (List.mem_of_getElem? (i := 580) rfl) rfl
abbrev c_X7_step : ByteArray := prog_9_method_10_code
abbrev y_X7_step : MethodName := ⟨"RulePayrollModel", "step", "(III)I"⟩
abbrev cw_X7_step : Cond := .code y_X7_step c_X7_step 4 (some .int)
def w_X7_step : List Cond := cw_X7_step :: mm_GW
set_option maxRecDepth 100000 in
theorem kc_X7_step : cw_X7_step ∈ mm_GW := mm_in (List.mem_of_getElem? (i := 584) rfl) rfl
abbrev c_X7_clear : ByteArray := prog_9_method_11_code
abbrev y_X7_clear : MethodName := ⟨"RulePayrollModel", "clear", "(I)I"⟩
abbrev cw_X7_clear : Cond := .code y_X7_clear c_X7_clear 3 (some .int)
def w_X7_clear : List Cond := cw_X7_clear :: mm_GW
set_option maxRecDepth 100000 in
theorem kc_X7_clear : cw_X7_clear ∈ mm_GW := mm_in (List.mem_of_getElem? (i := 588) rfl) rfl
abbrev c_X7_input : ByteArray := prog_9_method_12_code
abbrev y_X7_input : MethodName := ⟨"RulePayrollModel", "input", "(III)I"⟩
abbrev cw_X7_input : Cond := .code y_X7_input c_X7_input 4 (some .int)
def w_X7_input : List Cond := cw_X7_input :: mm_GW
set_option maxRecDepth 100000 in
theorem kc_X7_input : cw_X7_input ∈ mm_GW := mm_in (List.mem_of_getElem? (i := 592) rfl) rfl
abbrev c_X7_activate : ByteArray := prog_9_method_13_code
abbrev y_X7_activate : MethodName := ⟨"RulePayrollModel", "activate", "(IZ)I"⟩
abbrev cw_X7_activate : Cond := .code y_X7_activate c_X7_activate 3 (some .int)
def w_X7_activate : List Cond := cw_X7_activate :: mm_GW
set_option maxRecDepth 100000 in
theorem kc_X7_activate : cw_X7_activate ∈ mm_GW := mm_in (List.mem_of_getElem? (i := 596) rfl) rfl
abbrev c_X7_whole : ByteArray := prog_9_method_14_code
abbrev y_X7_whole : MethodName := ⟨"RulePayrollModel", "whole", "(J)Z"⟩
abbrev cw_X7_whole : Cond := .code y_X7_whole c_X7_whole 3 (some .boolean)
def w_X7_whole : List Cond := cw_X7_whole :: mm_GW
set_option maxRecDepth 100000 in
theorem kc_X7_whole : cw_X7_whole ∈ mm_GW := mm_in (List.mem_of_getElem? (i := 608) rfl) rfl
abbrev c_X7_ranged : ByteArray := prog_9_method_15_code
abbrev y_X7_ranged : MethodName := ⟨"RulePayrollModel", "ranged", "(J)J"⟩
abbrev cw_X7_ranged : Cond := .code y_X7_ranged c_X7_ranged 3 (some .long)
def w_X7_ranged : List Cond := cw_X7_ranged :: mm_GW
set_option maxRecDepth 100000 in
theorem kc_X7_ranged : cw_X7_ranged ∈ mm_GW := mm_in (List.mem_of_getElem? (i := 645) rfl) rfl
abbrev c_X7_rounded : ByteArray := prog_9_method_16_code
abbrev y_X7_rounded : MethodName := ⟨"RulePayrollModel", "rounded", "(JJ)J"⟩
abbrev cw_X7_rounded : Cond := .code y_X7_rounded c_X7_rounded 13 (some .long)
def w_X7_rounded : List Cond := cw_X7_rounded :: mm_GW
set_option maxRecDepth 100000 in
theorem kc_X7_rounded : cw_X7_rounded ∈ mm_GW := mm_in (List.mem_of_getElem? (i := 640) rfl) rfl
abbrev c_X7_stops : ByteArray := prog_9_method_17_code
abbrev y_X7_stops : MethodName := ⟨"RulePayrollModel", "stops", "(J)J"⟩
abbrev cw_X7_stops : Cond := .code y_X7_stops c_X7_stops 3 (some .long)
def w_X7_stops : List Cond := cw_X7_stops :: mm_GW
set_option maxRecDepth 100000 in
theorem kc_X7_stops : cw_X7_stops ∈ mm_GW := mm_in (List.mem_of_getElem? (i := 631) rfl) rfl
abbrev c_X7_scale : ByteArray := prog_9_method_18_code
abbrev y_X7_scale : MethodName := ⟨"RulePayrollModel", "scale", "(IJ)J"⟩
abbrev cw_X7_scale : Cond := .code y_X7_scale c_X7_scale 11 (some .long)
def w_X7_scale : List Cond := cw_X7_scale :: mm_GW
set_option maxRecDepth 100000 in
theorem kc_X7_scale : cw_X7_scale ∈ mm_GW := mm_in (List.mem_of_getElem? (i := 635) rfl) rfl
abbrev c_X7_plain : ByteArray := prog_9_method_19_code
abbrev y_X7_plain : MethodName := ⟨"RulePayrollModel", "plain", "(IJJ)J"⟩
abbrev cw_X7_plain : Cond := .code y_X7_plain c_X7_plain 6 (some .long)
def w_X7_plain : List Cond := cw_X7_plain :: mm_GW
set_option maxRecDepth 100000 in
theorem kc_X7_plain : cw_X7_plain ∈ mm_GW := mm_in (List.mem_of_getElem? (i := 650) rfl) rfl
abbrev c_X7_choose : ByteArray := prog_9_method_20_code
abbrev y_X7_choose : MethodName := ⟨"RulePayrollModel", "choose", "(II)J"⟩
abbrev cw_X7_choose : Cond := .code y_X7_choose c_X7_choose 7 (some .long)
def w_X7_choose : List Cond := cw_X7_choose :: mm_GW
set_option maxRecDepth 100000 in
theorem kc_X7_choose : cw_X7_choose ∈ mm_GW := mm_in (List.mem_of_getElem? (i := 624) rfl) rfl
abbrev c_X7_workOut : ByteArray := prog_9_method_21_code
abbrev y_X7_workOut : MethodName := ⟨"RulePayrollModel", "workOut", "(II)J"⟩
abbrev cw_X7_workOut : Cond := .code y_X7_workOut c_X7_workOut 11 (some .long)
def w_X7_workOut : List Cond := cw_X7_workOut :: mm_GW
set_option maxRecDepth 100000 in
theorem kc_X7_workOut : cw_X7_workOut ∈ mm_GW := mm_in (List.mem_of_getElem? (i := 620) rfl) rfl
abbrev c_X7_person : ByteArray := prog_9_method_22_code
abbrev y_X7_person : MethodName := ⟨"RulePayrollModel", "person", "(I)V"⟩
abbrev cw_X7_person : Cond := .code y_X7_person c_X7_person 4 none
def w_X7_person : List Cond := cw_X7_person :: mm_GW
set_option maxRecDepth 100000 in
theorem kc_X7_person : cw_X7_person ∈ mm_GW := mm_in (List.mem_of_getElem? (i := 615) rfl) rfl
abbrev c_X7_paidWhole : ByteArray := prog_9_method_23_code
abbrev y_X7_paidWhole : MethodName := ⟨"RulePayrollModel", "paidWhole", "(I)Z"⟩
abbrev cw_X7_paidWhole : Cond := .code y_X7_paidWhole c_X7_paidWhole 2 (some .boolean)
def w_X7_paidWhole : List Cond := cw_X7_paidWhole :: mm_GW
set_option maxRecDepth 100000 in
theorem kc_X7_paidWhole : cw_X7_paidWhole ∈ mm_GW := mm_in (List.mem_of_getElem? (i := 604) rfl) rfl
abbrev c_X7_value : ByteArray := prog_9_method_24_code
abbrev y_X7_value : MethodName := ⟨"RulePayrollModel", "value", "(II)J"⟩
abbrev cw_X7_value : Cond := .code y_X7_value c_X7_value 3 (some .long)
def w_X7_value : List Cond := cw_X7_value :: mm_GW
set_option maxRecDepth 100000 in
theorem kc_X7_value : cw_X7_value ∈ mm_GW := mm_in (List.mem_of_getElem? (i := 600) rfl) rfl
abbrev c_X7_payOne : ByteArray := prog_9_method_25_code
abbrev y_X7_payOne : MethodName := ⟨"RulePayrollModel", "payOne", "(II)I"⟩
abbrev cw_X7_payOne : Cond := .code y_X7_payOne c_X7_payOne 4 (some .int)
def w_X7_payOne : List Cond := cw_X7_payOne :: mm_GW
set_option maxRecDepth 100000 in
theorem kc_X7_payOne : cw_X7_payOne ∈ mm_GW := mm_in (List.mem_of_getElem? (i := 662) rfl) rfl
abbrev c_X7_payAll : ByteArray := prog_9_method_26_code
abbrev y_X7_payAll : MethodName := ⟨"RulePayrollModel", "payAll", "(I)V"⟩
abbrev cw_X7_payAll : Cond := .code y_X7_payAll c_X7_payAll 3 none
def w_X7_payAll : List Cond := cw_X7_payAll :: mm_GW
set_option maxRecDepth 100000 in
theorem kc_X7_payAll : cw_X7_payAll ∈ mm_GW := mm_in (List.mem_of_getElem? (i := 658) rfl) rfl
abbrev c_X7_pay : ByteArray := prog_9_method_27_code
abbrev y_X7_pay : MethodName := ⟨"RulePayrollModel", "pay", "()I"⟩
abbrev cw_X7_pay : Cond := .code y_X7_pay c_X7_pay 1 (some .int)
def w_X7_pay : List Cond := cw_X7_pay :: mm_GW
set_option maxRecDepth 100000 in
theorem kc_X7_pay : cw_X7_pay ∈ mm_GW := mm_in (List.mem_of_getElem? (i := 654) rfl) rfl
abbrev c_X7_takeBack : ByteArray := prog_9_method_28_code
abbrev y_X7_takeBack : MethodName := ⟨"RulePayrollModel", "takeBack", "(I)V"⟩
abbrev cw_X7_takeBack : Cond := .code y_X7_takeBack c_X7_takeBack 4 none
def w_X7_takeBack : List Cond := cw_X7_takeBack :: mm_GW
set_option maxRecDepth 100000 in
theorem kc_X7_takeBack : cw_X7_takeBack ∈ mm_GW := mm_in (List.mem_of_getElem? (i := 670) rfl) rfl
abbrev c_X7_back : ByteArray := prog_9_method_29_code
abbrev y_X7_back : MethodName := ⟨"RulePayrollModel", "back", "(I)I"⟩
abbrev cw_X7_back : Cond := .code y_X7_back c_X7_back 2 (some .int)
def w_X7_back : List Cond := cw_X7_back :: mm_GW
set_option maxRecDepth 100000 in
theorem kc_X7_back : cw_X7_back ∈ mm_GW := mm_in (List.mem_of_getElem? (i := 666) rfl) rfl
abbrev c_X7_slips : ByteArray := prog_9_method_30_code
abbrev y_X7_slips : MethodName := ⟨"RulePayrollModel", "slips", "(I)I"⟩
abbrev cw_X7_slips : Cond := .code y_X7_slips c_X7_slips 4 (some .int)
def w_X7_slips : List Cond := cw_X7_slips :: mm_GW
set_option maxRecDepth 100000 in
theorem kc_X7_slips : cw_X7_slips ∈ mm_GW := mm_in (List.mem_of_getElem? (i := 678) rfl) rfl
abbrev c_X7_again : ByteArray := prog_9_method_31_code
abbrev y_X7_again : MethodName := ⟨"RulePayrollModel", "again", "(I)I"⟩
abbrev cw_X7_again : Cond := .code y_X7_again c_X7_again 2 (some .int)
def w_X7_again : List Cond := cw_X7_again :: mm_GW
set_option maxRecDepth 100000 in
theorem kc_X7_again : cw_X7_again ∈ mm_GW := mm_in (List.mem_of_getElem? (i := 674) rfl) rfl
abbrev c_X7_slip : ByteArray := prog_9_method_32_code
abbrev y_X7_slip : MethodName := ⟨"RulePayrollModel", "slip", "(III)J"⟩
abbrev cw_X7_slip : Cond := .code y_X7_slip c_X7_slip 4 (some .long)
def w_X7_slip : List Cond := cw_X7_slip :: mm_GW
set_option maxRecDepth 100000 in
theorem kc_X7_slip : cw_X7_slip ∈ mm_GW := mm_in (List.mem_of_getElem? (i := 682) rfl) rfl
abbrev c_X7_held : ByteArray := prog_9_method_33_code
abbrev y_X7_held : MethodName := ⟨"RulePayrollModel", "held", "(II)I"⟩
abbrev cw_X7_held : Cond := .code y_X7_held c_X7_held 3 (some .int)
def w_X7_held : List Cond := cw_X7_held :: mm_GW
set_option maxRecDepth 100000 in
theorem kc_X7_held : cw_X7_held ∈ mm_GW := mm_in (List.mem_of_getElem? (i := 686) rfl) rfl
abbrev c_X7_account : ByteArray := prog_9_method_34_code
abbrev y_X7_account : MethodName := ⟨"RulePayrollModel", "account", "(I)J"⟩
abbrev cw_X7_account : Cond := .code y_X7_account c_X7_account 6 (some .long)
def w_X7_account : List Cond := cw_X7_account :: mm_GW
set_option maxRecDepth 100000 in
theorem kc_X7_account : cw_X7_account ∈ mm_GW := mm_in (List.mem_of_getElem? (i := 690) rfl) rfl
abbrev c_X7_paid : ByteArray := prog_9_method_35_code
abbrev y_X7_paid : MethodName := ⟨"RulePayrollModel", "paid", "(II)J"⟩
abbrev cw_X7_paid : Cond := .code y_X7_paid c_X7_paid 3 (some .long)
def w_X7_paid : List Cond := cw_X7_paid :: mm_GW
set_option maxRecDepth 100000 in
theorem kc_X7_paid : cw_X7_paid ∈ mm_GW := mm_in (List.mem_of_getElem? (i := 694) rfl) rfl
abbrev c_X7_count : ByteArray := prog_9_method_36_code
abbrev y_X7_count : MethodName := ⟨"RulePayrollModel", "count", "(I)I"⟩
abbrev cw_X7_count : Cond := .code y_X7_count c_X7_count 7 (some .int)
def w_X7_count : List Cond := cw_X7_count :: mm_GW
set_option maxRecDepth 100000 in
theorem kc_X7_count : cw_X7_count ∈ mm_GW := mm_in (List.mem_of_getElem? (i := 698) rfl) rfl
abbrev c_X0_init : ByteArray := prog_2_method_1_code
abbrev y_X0_init : MethodName := ⟨"RulePayroll$Nodes", "<init>", "()V"⟩
abbrev cw_X0_init : Cond := .code y_X0_init c_X0_init 1 none
def w_X0_init : List Cond := cw_X0_init :: mm_GW
set_option maxRecDepth 100000 in
theorem kc_X0_init : cw_X0_init ∈ mm_GW := mm_in (List.mem_of_getElem? (i := 60) rfl) rfl
abbrev c_X0_has : ByteArray := prog_2_method_2_code
abbrev y_X0_has : MethodName := ⟨"RulePayroll$Nodes", "has", "(I)Z"⟩
abbrev cw_X0_has : Cond := .code y_X0_has c_X0_has 2 (some .boolean)
def w_X0_has : List Cond := cw_X0_has :: mm_GW
set_option maxRecDepth 100000 in
theorem kc_X0_has : cw_X0_has ∈ mm_GW := mm_in (List.mem_of_getElem? (i := 212) rfl) rfl
abbrev c_X0_make : ByteArray := prog_2_method_3_code
abbrev y_X0_make : MethodName := ⟨"RulePayroll$Nodes", "make", "(IIII)I"⟩
abbrev cw_X0_make : Cond := .code y_X0_make c_X0_make 11 (some .int)
def w_X0_make : List Cond := cw_X0_make :: mm_GW
set_option maxRecDepth 100000 in
theorem kc_X0_make : cw_X0_make ∈ mm_GW := mm_in (List.mem_of_getElem? (i := 197) rfl) rfl
abbrev c_X0_takesNode : ByteArray := prog_2_method_4_code
abbrev y_X0_takesNode : MethodName := ⟨"RulePayroll$Nodes", "takesNode", "(II)Z"⟩
abbrev cw_X0_takesNode : Cond := .code y_X0_takesNode c_X0_takesNode 2 (some .boolean)
def w_X0_takesNode : List Cond := cw_X0_takesNode :: mm_GW
set_option maxRecDepth 100000 in
theorem kc_X0_takesNode : cw_X0_takesNode ∈ mm_GW := mm_in (List.mem_of_getElem? (i := 215) rfl) rfl
abbrev c_X0_operandsFit : ByteArray := prog_2_method_5_code
abbrev y_X0_operandsFit : MethodName := ⟨"RulePayroll$Nodes", "operandsFit", "(IIII)Z"⟩
abbrev cw_X0_operandsFit : Cond := .code y_X0_operandsFit c_X0_operandsFit 5 (some .boolean)
def w_X0_operandsFit : List Cond := cw_X0_operandsFit :: mm_GW
set_option maxRecDepth 100000 in
theorem kc_X0_operandsFit : cw_X0_operandsFit ∈ mm_GW := mm_in (List.mem_of_getElem? (i := 204) rfl) rfl
abbrev c_X0_firstFits : ByteArray := prog_2_method_6_code
abbrev y_X0_firstFits : MethodName := ⟨"RulePayroll$Nodes", "firstFits", "(II)Z"⟩
abbrev cw_X0_firstFits : Cond := .code y_X0_firstFits c_X0_firstFits 3 (some .boolean)
def w_X0_firstFits : List Cond := cw_X0_firstFits :: mm_GW
set_option maxRecDepth 100000 in
theorem kc_X0_firstFits : cw_X0_firstFits ∈ mm_GW := mm_in (List.mem_of_getElem? (i := 208) rfl) rfl
abbrev c_X0_levelOf : ByteArray := prog_2_method_7_code
abbrev y_X0_levelOf : MethodName := ⟨"RulePayroll$Nodes", "levelOf", "(I)I"⟩
abbrev cw_X0_levelOf : Cond := .code y_X0_levelOf c_X0_levelOf 2 (some .int)
def w_X0_levelOf : List Cond := cw_X0_levelOf :: mm_GW
set_option maxRecDepth 100000 in
theorem kc_X0_levelOf : cw_X0_levelOf ∈ mm_GW := mm_in (List.mem_of_getElem? (i := 221) rfl) rfl
abbrev c_X0_rankOf : ByteArray := prog_2_method_8_code
abbrev y_X0_rankOf : MethodName := ⟨"RulePayroll$Nodes", "rankOf", "(I)I"⟩
abbrev cw_X0_rankOf : Cond := .code y_X0_rankOf c_X0_rankOf 2 (some .int)
def w_X0_rankOf : List Cond := cw_X0_rankOf :: mm_GW
set_option maxRecDepth 100000 in
theorem kc_X0_rankOf : cw_X0_rankOf ∈ mm_GW := mm_in (List.mem_of_getElem? (i := 228) rfl) rfl
abbrev c_X0_putInOrder : ByteArray := prog_2_method_9_code
abbrev y_X0_putInOrder : MethodName := ⟨"RulePayroll$Nodes", "putInOrder", "(I)V"⟩
abbrev cw_X0_putInOrder : Cond := .code y_X0_putInOrder c_X0_putInOrder 3 none
def w_X0_putInOrder : List Cond := cw_X0_putInOrder :: mm_GW
set_option maxRecDepth 100000 in
theorem kc_X0_putInOrder : cw_X0_putInOrder ∈ mm_GW := mm_in (List.mem_of_getElem? (i := 232) rfl) rfl
abbrev c_X1_init : ByteArray := prog_3_method_1_code
abbrev y_X1_init : MethodName := ⟨"RulePayroll$Person", "<init>", "()V"⟩
abbrev cw_X1_init : Cond := .code y_X1_init c_X1_init 1 none
def w_X1_init : List Cond := cw_X1_init :: mm_GW
set_option maxRecDepth 100000 in
theorem kc_X1_init : cw_X1_init ∈ mm_GW := mm_in (List.mem_of_getElem? (i := 140) rfl) rfl
abbrev c_X1_paidSoFar : ByteArray := prog_3_method_2_code
abbrev y_X1_paidSoFar : MethodName := ⟨"RulePayroll$Person", "paidSoFar", "(I)J"⟩
abbrev cw_X1_paidSoFar : Cond := .code y_X1_paidSoFar c_X1_paidSoFar 2 (some .long)
def w_X1_paidSoFar : List Cond := cw_X1_paidSoFar :: mm_GW
set_option maxRecDepth 100000 in
theorem kc_X1_paidSoFar : cw_X1_paidSoFar ∈ mm_GW := mm_in (List.mem_of_getElem? (i := 301) rfl) rfl
abbrev c_X1_paidIsInt : ByteArray := prog_3_method_3_code
abbrev y_X1_paidIsInt : MethodName := ⟨"RulePayroll$Person", "paidIsInt", "()Z"⟩
abbrev cw_X1_paidIsInt : Cond := .code y_X1_paidIsInt c_X1_paidIsInt 1 (some .boolean)
def w_X1_paidIsInt : List Cond := cw_X1_paidIsInt :: mm_GW
set_option maxRecDepth 100000 in
theorem kc_X1_paidIsInt : cw_X1_paidIsInt ∈ mm_GW := mm_in (List.mem_of_getElem? (i := 274) rfl) rfl
abbrev c_X1_grow : ByteArray := prog_3_method_4_code
abbrev y_X1_grow : MethodName := ⟨"RulePayroll$Person", "grow", "(JJ)V"⟩
abbrev cw_X1_grow : Cond := .code y_X1_grow c_X1_grow 5 none
def w_X1_grow : List Cond := cw_X1_grow :: mm_GW
set_option maxRecDepth 100000 in
theorem kc_X1_grow : cw_X1_grow ∈ mm_GW := mm_in (List.mem_of_getElem? (i := 396) rfl) rfl
abbrev c_X1_reasonToHold : ByteArray := prog_3_method_5_code
abbrev y_X1_reasonToHold : MethodName := ⟨"RulePayroll$Person", "reasonToHold", "(JJJ)I"⟩
abbrev cw_X1_reasonToHold : Cond := .code y_X1_reasonToHold c_X1_reasonToHold 7 (some .int)
def w_X1_reasonToHold : List Cond := cw_X1_reasonToHold :: mm_GW
set_option maxRecDepth 100000 in
theorem kc_X1_reasonToHold : cw_X1_reasonToHold ∈ mm_GW := mm_in (List.mem_of_getElem? (i := 386) rfl) rfl
abbrev c_X1_reasonOf : ByteArray := prog_3_method_6_code
abbrev y_X1_reasonOf : MethodName := ⟨"RulePayroll$Person", "reasonOf", "(J)I"⟩
abbrev cw_X1_reasonOf : Cond := .code y_X1_reasonOf c_X1_reasonOf 2 (some .int)
def w_X1_reasonOf : List Cond := cw_X1_reasonOf :: mm_GW
set_option maxRecDepth 100000 in
theorem kc_X1_reasonOf : cw_X1_reasonOf ∈ mm_GW := mm_in (List.mem_of_getElem? (i := 389) rfl) rfl
abbrev c_X2_init : ByteArray := prog_4_method_1_code
abbrev y_X2_init : MethodName := ⟨"RulePayroll$Rules", "<init>", "()V"⟩
abbrev cw_X2_init : Cond := .code y_X2_init c_X2_init 2 none
def w_X2_init : List Cond := cw_X2_init :: mm_GW
set_option maxRecDepth 100000 in
theorem kc_X2_init : cw_X2_init ∈ mm_GW := mm_in (List.mem_of_getElem? (i := 54) rfl) rfl
abbrev c_X2_definitionBits : ByteArray := prog_4_method_2_code
abbrev y_X2_definitionBits : MethodName := ⟨"RulePayroll$Rules", "definitionBits", "()I"⟩
abbrev cw_X2_definitionBits : Cond := .code y_X2_definitionBits c_X2_definitionBits 3 (some .int)
def w_X2_definitionBits : List Cond := cw_X2_definitionBits :: mm_GW
set_option maxRecDepth 100000 in
theorem kc_X2_definitionBits : cw_X2_definitionBits ∈ mm_GW := mm_in (List.mem_of_getElem? (i := 478) rfl) rfl
abbrev c_X2_workOutFor : ByteArray := prog_4_method_3_code
abbrev y_X2_workOutFor : MethodName := ⟨"RulePayroll$Rules", "workOutFor", "(LRulePayroll$Person;)V"⟩
abbrev cw_X2_workOutFor : Cond := .code y_X2_workOutFor c_X2_workOutFor 4 none
def w_X2_workOutFor : List Cond := cw_X2_workOutFor :: mm_GW
set_option maxRecDepth 100000 in
theorem kc_X2_workOutFor : cw_X2_workOutFor ∈ mm_GW := mm_in (List.mem_of_getElem? (i := 284) rfl) rfl
abbrev c_X2_workedDefinition : ByteArray := prog_4_method_4_code
abbrev y_X2_workedDefinition : MethodName := ⟨"RulePayroll$Rules", "workedDefinition", "(I)J"⟩
abbrev cw_X2_workedDefinition : Cond := .code y_X2_workedDefinition c_X2_workedDefinition 2 (some .long)
def w_X2_workedDefinition : List Cond := cw_X2_workedDefinition :: mm_GW
set_option maxRecDepth 100000 in
theorem kc_X2_workedDefinition : cw_X2_workedDefinition ∈ mm_GW := mm_in (List.mem_of_getElem? (i := 292) rfl) rfl
abbrev c_X2_workedOrEmpty : ByteArray := prog_4_method_5_code
abbrev y_X2_workedOrEmpty : MethodName := ⟨"RulePayroll$Rules", "workedOrEmpty", "(I)J"⟩
abbrev cw_X2_workedOrEmpty : Cond := .code y_X2_workedOrEmpty c_X2_workedOrEmpty 2 (some .long)
def w_X2_workedOrEmpty : List Cond := cw_X2_workedOrEmpty :: mm_GW
set_option maxRecDepth 100000 in
theorem kc_X2_workedOrEmpty : cw_X2_workedOrEmpty ∈ mm_GW := mm_in (List.mem_of_getElem? (i := 296) rfl) rfl
abbrev c_X2_workedOut : ByteArray := prog_4_method_6_code
abbrev y_X2_workedOut : MethodName := ⟨"RulePayroll$Rules", "workedOut", "(ILRulePayroll$Person;)J"⟩
abbrev cw_X2_workedOut : Cond := .code y_X2_workedOut c_X2_workedOut 7 (some .long)
def w_X2_workedOut : List Cond := cw_X2_workedOut :: mm_GW
set_option maxRecDepth 100000 in
theorem kc_X2_workedOut : cw_X2_workedOut ∈ mm_GW := mm_in (List.mem_of_getElem? (i := 288) rfl) rfl
abbrev c_X3_init : ByteArray := prog_5_method_1_code
abbrev y_X3_init : MethodName := ⟨"RulePayroll$Runs", "<init>", "()V"⟩
abbrev cw_X3_init : Cond := .code y_X3_init c_X3_init 1 none
def w_X3_init : List Cond := cw_X3_init :: mm_GW
set_option maxRecDepth 100000 in
theorem kc_X3_init : cw_X3_init ∈ mm_GW := mm_in (List.mem_of_getElem? (i := 161) rfl) rfl
abbrev c_X3_has : ByteArray := prog_5_method_2_code
abbrev y_X3_has : MethodName := ⟨"RulePayroll$Runs", "has", "(I)Z"⟩
abbrev cw_X3_has : Cond := .code y_X3_has c_X3_has 2 (some .boolean)
def w_X3_has : List Cond := cw_X3_has :: mm_GW
set_option maxRecDepth 100000 in
theorem kc_X3_has : cw_X3_has ∈ mm_GW := mm_in (List.mem_of_getElem? (i := 408) rfl) rfl
abbrev c_X3_stands : ByteArray := prog_5_method_3_code
abbrev y_X3_stands : MethodName := ⟨"RulePayroll$Runs", "stands", "(I)Z"⟩
abbrev cw_X3_stands : Cond := .code y_X3_stands c_X3_stands 2 (some .boolean)
def w_X3_stands : List Cond := cw_X3_stands :: mm_GW
set_option maxRecDepth 100000 in
theorem kc_X3_stands : cw_X3_stands ∈ mm_GW := mm_in (List.mem_of_getElem? (i := 404) rfl) rfl
abbrev c_X3_amountOf : ByteArray := prog_5_method_4_code
abbrev y_X3_amountOf : MethodName := ⟨"RulePayroll$Runs", "amountOf", "(III)J"⟩
abbrev cw_X3_amountOf : Cond := .code y_X3_amountOf c_X3_amountOf 4 (some .long)
def w_X3_amountOf : List Cond := cw_X3_amountOf :: mm_GW
set_option maxRecDepth 100000 in
theorem kc_X3_amountOf : cw_X3_amountOf ∈ mm_GW := mm_in (List.mem_of_getElem? (i := 421) rfl) rfl
abbrev c_X3_hasSlip : ByteArray := prog_5_method_5_code
abbrev y_X3_hasSlip : MethodName := ⟨"RulePayroll$Runs", "hasSlip", "(II)Z"⟩
abbrev cw_X3_hasSlip : Cond := .code y_X3_hasSlip c_X3_hasSlip 3 (some .boolean)
def w_X3_hasSlip : List Cond := cw_X3_hasSlip :: mm_GW
set_option maxRecDepth 100000 in
theorem kc_X3_hasSlip : cw_X3_hasSlip ∈ mm_GW := mm_in (List.mem_of_getElem? (i := 417) rfl) rfl
abbrev c_X3_placeOf : ByteArray := prog_5_method_6_code
abbrev y_X3_placeOf : MethodName := ⟨"RulePayroll$Runs", "placeOf", "(II)I"⟩
abbrev cw_X3_placeOf : Cond := .code y_X3_placeOf c_X3_placeOf 2 (some .int)
def w_X3_placeOf : List Cond := cw_X3_placeOf :: mm_GW
set_option maxRecDepth 100000 in
theorem kc_X3_placeOf : cw_X3_placeOf ∈ mm_GW := mm_in (List.mem_of_getElem? (i := 372) rfl) rfl
abbrev c_X3_wipe : ByteArray := prog_5_method_7_code
abbrev y_X3_wipe : MethodName := ⟨"RulePayroll$Runs", "wipe", "(II)V"⟩
abbrev cw_X3_wipe : Cond := .code y_X3_wipe c_X3_wipe 3 none
def w_X3_wipe : List Cond := cw_X3_wipe :: mm_GW
set_option maxRecDepth 100000 in
theorem kc_X3_wipe : cw_X3_wipe ∈ mm_GW := mm_in (List.mem_of_getElem? (i := 364) rfl) rfl
abbrev c_X3_writeSlip : ByteArray := prog_5_method_8_code
abbrev y_X3_writeSlip : MethodName := ⟨"RulePayroll$Runs", "writeSlip", "(IIJJJ)V"⟩
abbrev cw_X3_writeSlip : Cond := .code y_X3_writeSlip c_X3_writeSlip 10 none
def w_X3_writeSlip : List Cond := cw_X3_writeSlip :: mm_GW
set_option maxRecDepth 100000 in
theorem kc_X3_writeSlip : cw_X3_writeSlip ∈ mm_GW := mm_in (List.mem_of_getElem? (i := 369) rfl) rfl
abbrev c_X3_hold : ByteArray := prog_5_method_9_code
abbrev y_X3_hold : MethodName := ⟨"RulePayroll$Runs", "hold", "(III)V"⟩
abbrev cw_X3_hold : Cond := .code y_X3_hold c_X3_hold 4 none
def w_X3_hold : List Cond := cw_X3_hold :: mm_GW
set_option maxRecDepth 100000 in
theorem kc_X3_hold : cw_X3_hold ∈ mm_GW := mm_in (List.mem_of_getElem? (i := 376) rfl) rfl
abbrev c_X3_slipsOf : ByteArray := prog_5_method_10_code
abbrev y_X3_slipsOf : MethodName := ⟨"RulePayroll$Runs", "slipsOf", "(I)I"⟩
abbrev cw_X3_slipsOf : Cond := .code y_X3_slipsOf c_X3_slipsOf 4 (some .int)
def w_X3_slipsOf : List Cond := cw_X3_slipsOf :: mm_GW
set_option maxRecDepth 100000 in
theorem kc_X3_slipsOf : cw_X3_slipsOf ∈ mm_GW := mm_in (List.mem_of_getElem? (i := 429) rfl) rfl
abbrev c_X3_slipsStanding : ByteArray := prog_5_method_11_code
abbrev y_X3_slipsStanding : MethodName := ⟨"RulePayroll$Runs", "slipsStanding", "()I"⟩
abbrev cw_X3_slipsStanding : Cond := .code y_X3_slipsStanding c_X3_slipsStanding 3 (some .int)
def w_X3_slipsStanding : List Cond := cw_X3_slipsStanding :: mm_GW
set_option maxRecDepth 100000 in
theorem kc_X3_slipsStanding : cw_X3_slipsStanding ∈ mm_GW := mm_in (List.mem_of_getElem? (i := 469) rfl) rfl
abbrev c_X3_howManyTakenBack : ByteArray := prog_5_method_12_code
abbrev y_X3_howManyTakenBack : MethodName := ⟨"RulePayroll$Runs", "howManyTakenBack", "()I"⟩
abbrev cw_X3_howManyTakenBack : Cond := .code y_X3_howManyTakenBack c_X3_howManyTakenBack 3 (some .int)
def w_X3_howManyTakenBack : List Cond := cw_X3_howManyTakenBack :: mm_GW
set_option maxRecDepth 100000 in
theorem kc_X3_howManyTakenBack : cw_X3_howManyTakenBack ∈ mm_GW := mm_in (List.mem_of_getElem? (i := 465) rfl) rfl
abbrev c_X3_totalOf : ByteArray := prog_5_method_13_code
abbrev y_X3_totalOf : MethodName := ⟨"RulePayroll$Runs", "totalOf", "(I)J"⟩
abbrev cw_X3_totalOf : Cond := .code y_X3_totalOf c_X3_totalOf 5 (some .long)
def w_X3_totalOf : List Cond := cw_X3_totalOf :: mm_GW
set_option maxRecDepth 100000 in
theorem kc_X3_totalOf : cw_X3_totalOf ∈ mm_GW := mm_in (List.mem_of_getElem? (i := 447) rfl) rfl
abbrev c_X3_totalOfRun : ByteArray := prog_5_method_14_code
abbrev y_X3_totalOfRun : MethodName := ⟨"RulePayroll$Runs", "totalOfRun", "(II)J"⟩
abbrev cw_X3_totalOfRun : Cond := .code y_X3_totalOfRun c_X3_totalOfRun 6 (some .long)
def w_X3_totalOfRun : List Cond := cw_X3_totalOfRun :: mm_GW
set_option maxRecDepth 100000 in
theorem kc_X3_totalOfRun : cw_X3_totalOfRun ∈ mm_GW := mm_in (List.mem_of_getElem? (i := 451) rfl) rfl
abbrev c_X4_init : ByteArray := prog_6_method_1_code
abbrev y_X4_init : MethodName := ⟨"RulePayroll$Table", "<init>", "()V"⟩
abbrev cw_X4_init : Cond := .code y_X4_init c_X4_init 1 none
def w_X4_init : List Cond := cw_X4_init :: mm_GW
set_option maxRecDepth 100000 in
theorem kc_X4_init : cw_X4_init ∈ mm_GW := mm_in (List.mem_of_getElem? (i := 104) rfl) rfl
abbrev c_X4_addStep : ByteArray := prog_6_method_2_code
abbrev y_X4_addStep : MethodName := ⟨"RulePayroll$Table", "addStep", "(II)I"⟩
abbrev cw_X4_addStep : Cond := .code y_X4_addStep c_X4_addStep 4 (some .int)
def w_X4_addStep : List Cond := cw_X4_addStep :: mm_GW
set_option maxRecDepth 100000 in
theorem kc_X4_addStep : cw_X4_addStep ∈ mm_GW := mm_in (List.mem_of_getElem? (i := 250) rfl) rfl
abbrev c_X4_loseSteps : ByteArray := prog_6_method_3_code
abbrev y_X4_loseSteps : MethodName := ⟨"RulePayroll$Table", "loseSteps", "()I"⟩
abbrev cw_X4_loseSteps : Cond := .code y_X4_loseSteps c_X4_loseSteps 2 (some .int)
def w_X4_loseSteps : List Cond := cw_X4_loseSteps :: mm_GW
set_option maxRecDepth 100000 in
theorem kc_X4_loseSteps : cw_X4_loseSteps ∈ mm_GW := mm_in (List.mem_of_getElem? (i := 258) rfl) rfl
abbrev c_X4_scaled : ByteArray := prog_6_method_4_code
abbrev y_X4_scaled : MethodName := ⟨"RulePayroll$Table", "scaled", "(J)J"⟩
abbrev cw_X4_scaled : Cond := .code y_X4_scaled c_X4_scaled 10 (some .long)
def w_X4_scaled : List Cond := cw_X4_scaled :: mm_GW
set_option maxRecDepth 100000 in
theorem kc_X4_scaled : cw_X4_scaled ∈ mm_GW := mm_in (List.mem_of_getElem? (i := 342) rfl) rfl
abbrev c_X5_isInt : ByteArray := prog_7_method_2_code
abbrev y_X5_isInt : MethodName := ⟨"RulePayroll$Values", "isInt", "(J)Z"⟩
abbrev cw_X5_isInt : Cond := .code y_X5_isInt c_X5_isInt 2 (some .boolean)
def w_X5_isInt : List Cond := cw_X5_isInt :: mm_GW
set_option maxRecDepth 100000 in
theorem kc_X5_isInt : cw_X5_isInt ∈ mm_GW := mm_in (List.mem_of_getElem? (i := 277) rfl) rfl
abbrev c_X5_faultOf : ByteArray := prog_7_method_3_code
abbrev y_X5_faultOf : MethodName := ⟨"RulePayroll$Values", "faultOf", "(J)J"⟩
abbrev cw_X5_faultOf : Cond := .code y_X5_faultOf c_X5_faultOf 2 (some .long)
def w_X5_faultOf : List Cond := cw_X5_faultOf :: mm_GW
set_option maxRecDepth 100000 in
theorem kc_X5_faultOf : cw_X5_faultOf ∈ mm_GW := mm_in (List.mem_of_getElem? (i := 308) rfl) rfl
abbrev c_X5_truthOf : ByteArray := prog_7_method_4_code
abbrev y_X5_truthOf : MethodName := ⟨"RulePayroll$Values", "truthOf", "(J)J"⟩
abbrev cw_X5_truthOf : Cond := .code y_X5_truthOf c_X5_truthOf 2 (some .long)
def w_X5_truthOf : List Cond := cw_X5_truthOf :: mm_GW
set_option maxRecDepth 100000 in
theorem kc_X5_truthOf : cw_X5_truthOf ∈ mm_GW := mm_in (List.mem_of_getElem? (i := 325) rfl) rfl
abbrev c_X5_not : ByteArray := prog_7_method_5_code
abbrev y_X5_not : MethodName := ⟨"RulePayroll$Values", "not", "(J)J"⟩
abbrev cw_X5_not : Cond := .code y_X5_not c_X5_not 2 (some .long)
def w_X5_not : List Cond := cw_X5_not :: mm_GW
set_option maxRecDepth 100000 in
theorem kc_X5_not : cw_X5_not ∈ mm_GW := mm_in (List.mem_of_getElem? (i := 319) rfl) rfl
abbrev c_X5_both : ByteArray := prog_7_method_6_code
abbrev y_X5_both : MethodName := ⟨"RulePayroll$Values", "both", "(JJ)J"⟩
abbrev cw_X5_both : Cond := .code y_X5_both c_X5_both 4 (some .long)
def w_X5_both : List Cond := cw_X5_both :: mm_GW
set_option maxRecDepth 100000 in
theorem kc_X5_both : cw_X5_both ∈ mm_GW := mm_in (List.mem_of_getElem? (i := 322) rfl) rfl
abbrev c_X5_any : ByteArray := prog_7_method_7_code
abbrev y_X5_any : MethodName := ⟨"RulePayroll$Values", "any", "(JJ)J"⟩
abbrev cw_X5_any : Cond := .code y_X5_any c_X5_any 4 (some .long)
def w_X5_any : List Cond := cw_X5_any :: mm_GW
set_option maxRecDepth 100000 in
theorem kc_X5_any : cw_X5_any ∈ mm_GW := mm_in (List.mem_of_getElem? (i := 328) rfl) rfl
abbrev c_X5_choice : ByteArray := prog_7_method_8_code
abbrev y_X5_choice : MethodName := ⟨"RulePayroll$Values", "choice", "(JJJ)J"⟩
abbrev cw_X5_choice : Cond := .code y_X5_choice c_X5_choice 6 (some .long)
def w_X5_choice : List Cond := cw_X5_choice :: mm_GW
set_option maxRecDepth 100000 in
theorem kc_X5_choice : cw_X5_choice ∈ mm_GW := mm_in (List.mem_of_getElem? (i := 331) rfl) rfl
abbrev c_X5_also : ByteArray := prog_7_method_9_code
abbrev y_X5_also : MethodName := ⟨"RulePayroll$Values", "also", "(JJ)J"⟩
abbrev cw_X5_also : Cond := .code y_X5_also c_X5_also 4 (some .long)
def w_X5_also : List Cond := cw_X5_also :: mm_GW
set_option maxRecDepth 100000 in
theorem kc_X5_also : cw_X5_also ∈ mm_GW := mm_in (List.mem_of_getElem? (i := 337) rfl) rfl
abbrev c_X5_byDefault : ByteArray := prog_7_method_10_code
abbrev y_X5_byDefault : MethodName := ⟨"RulePayroll$Values", "byDefault", "(JJJ)J"⟩
abbrev cw_X5_byDefault : Cond := .code y_X5_byDefault c_X5_byDefault 6 (some .long)
def w_X5_byDefault : List Cond := cw_X5_byDefault :: mm_GW
set_option maxRecDepth 100000 in
theorem kc_X5_byDefault : cw_X5_byDefault ∈ mm_GW := mm_in (List.mem_of_getElem? (i := 334) rfl) rfl
abbrev c_X5_ofTwo : ByteArray := prog_7_method_11_code
abbrev y_X5_ofTwo : MethodName := ⟨"RulePayroll$Values", "ofTwo", "(IJJ)J"⟩
abbrev cw_X5_ofTwo : Cond := .code y_X5_ofTwo c_X5_ofTwo 7 (some .long)
def w_X5_ofTwo : List Cond := cw_X5_ofTwo :: mm_GW
set_option maxRecDepth 100000 in
theorem kc_X5_ofTwo : cw_X5_ofTwo ∈ mm_GW := mm_in (List.mem_of_getElem? (i := 349) rfl) rfl
abbrev c_X5_ofInts : ByteArray := prog_7_method_12_code
abbrev y_X5_ofInts : MethodName := ⟨"RulePayroll$Values", "ofInts", "(IJJ)J"⟩
abbrev cw_X5_ofInts : Cond := .code y_X5_ofInts c_X5_ofInts 5 (some .long)
def w_X5_ofInts : List Cond := cw_X5_ofInts :: mm_GW
set_option maxRecDepth 100000 in
theorem kc_X5_ofInts : cw_X5_ofInts ∈ mm_GW := mm_in (List.mem_of_getElem? (i := 352) rfl) rfl
abbrev c_X5_share : ByteArray := prog_7_method_13_code
abbrev y_X5_share : MethodName := ⟨"RulePayroll$Values", "share", "(JJJ)J"⟩
abbrev cw_X5_share : Cond := .code y_X5_share c_X5_share 8 (some .long)
def w_X5_share : List Cond := cw_X5_share :: mm_GW
set_option maxRecDepth 100000 in
theorem kc_X5_share : cw_X5_share ∈ mm_GW := mm_in (List.mem_of_getElem? (i := 304) rfl) rfl
abbrev c_X5_rounded : ByteArray := prog_7_method_14_code
abbrev y_X5_rounded : MethodName := ⟨"RulePayroll$Values", "rounded", "(JJ)J"⟩
abbrev cw_X5_rounded : Cond := .code y_X5_rounded c_X5_rounded 10 (some .long)
def w_X5_rounded : List Cond := cw_X5_rounded :: mm_GW
set_option maxRecDepth 100000 in
theorem kc_X5_rounded : cw_X5_rounded ∈ mm_GW := mm_in (List.mem_of_getElem? (i := 314) rfl) rfl
abbrev c_J7_fill : ByteArray := prog_11_method_103_code
abbrev y_J7_fill : MethodName := ⟨"java/util/Arrays", "fill", "([II)V"⟩
abbrev cw_J7_fill : Cond := .code y_J7_fill c_J7_fill 4 none
def w_J7_fill : List Cond := cw_J7_fill :: mm_GW
set_option maxRecDepth 100000 in
theorem kc_J7_fill : cw_J7_fill ∈ mm_GW := mm_in (List.mem_of_getElem? (i := 100) rfl) rfl
set_option maxRecDepth 100000 in
theorem kc_max : (Cond.code Lib.Math.max.name Lib.Math.max.code 2 (some .int)) ∈ mm_GW := mm_in (List.mem_of_getElem? (i := 224) rfl) rfl
