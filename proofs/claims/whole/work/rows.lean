section
-- ===== PART A: goes FIRST, ahead of the names: the tables' words, and 'selects' of the private methods out of them =====
/-- a private method of a class that the tables say can be made, by its rows of tables_1 -/
def lw_okq (q : MethodName × Nat) : Prop := (q.1.cls ≠ "java/lang/invoke/MethodHandle" ∧ q.1.cls ≠ "java/lang/invoke/VarHandle") ∧ Cond.instantiable q.1.cls q.2 ∈ tables_1 ∧ Cond.privateMethod q.1 ∈ tables_1 ∧ Cond.instanceMethod q.1 ∈ tables_1
theorem lw_p0 : lw_okq (⟨"RulePayroll$Nodes", "operandsFit", "(IIII)Z"⟩, 8) := ⟨⟨by decide +kernel, by decide +kernel⟩, List.mem_of_getElem? (i := 26) (by decide +kernel), List.mem_of_getElem? (i := 171) (by decide +kernel), List.mem_of_getElem? (i := 172) (by decide +kernel)⟩
theorem lw_p1 : lw_okq (⟨"RulePayroll$Nodes", "firstFits", "(II)Z"⟩, 8) := ⟨⟨by decide +kernel, by decide +kernel⟩, List.mem_of_getElem? (i := 26) (by decide +kernel), List.mem_of_getElem? (i := 175) (by decide +kernel), List.mem_of_getElem? (i := 176) (by decide +kernel)⟩
theorem lw_p2 : lw_okq (⟨"RulePayroll$Nodes", "levelOf", "(I)I"⟩, 8) := ⟨⟨by decide +kernel, by decide +kernel⟩, List.mem_of_getElem? (i := 26) (by decide +kernel), List.mem_of_getElem? (i := 188) (by decide +kernel), List.mem_of_getElem? (i := 189) (by decide +kernel)⟩
theorem lw_p3 : lw_okq (⟨"RulePayroll$Nodes", "rankOf", "(I)I"⟩, 8) := ⟨⟨by decide +kernel, by decide +kernel⟩, List.mem_of_getElem? (i := 26) (by decide +kernel), List.mem_of_getElem? (i := 195) (by decide +kernel), List.mem_of_getElem? (i := 196) (by decide +kernel)⟩
theorem lw_p4 : lw_okq (⟨"RulePayroll$Nodes", "putInOrder", "(I)V"⟩, 8) := ⟨⟨by decide +kernel, by decide +kernel⟩, List.mem_of_getElem? (i := 26) (by decide +kernel), List.mem_of_getElem? (i := 199) (by decide +kernel), List.mem_of_getElem? (i := 200) (by decide +kernel)⟩
theorem lw_p5 : lw_okq (⟨"RulePayroll$Rules", "workedOut", "(ILRulePayroll$Person;)J"⟩, 4) := ⟨⟨by decide +kernel, by decide +kernel⟩, List.mem_of_getElem? (i := 20) (by decide +kernel), List.mem_of_getElem? (i := 255) (by decide +kernel), List.mem_of_getElem? (i := 256) (by decide +kernel)⟩
theorem lw_p6 : lw_okq (⟨"RulePayroll$Rules", "workedOrEmpty", "(I)J"⟩, 4) := ⟨⟨by decide +kernel, by decide +kernel⟩, List.mem_of_getElem? (i := 20) (by decide +kernel), List.mem_of_getElem? (i := 263) (by decide +kernel), List.mem_of_getElem? (i := 264) (by decide +kernel)⟩
theorem lw_p7 : lw_okq (⟨"RulePayroll", "payAll", "(I)V"⟩, 3) := ⟨⟨by decide +kernel, by decide +kernel⟩, List.mem_of_getElem? (i := 12) (by decide +kernel), List.mem_of_getElem? (i := 327) (by decide +kernel), List.mem_of_getElem? (i := 328) (by decide +kernel)⟩
theorem lw_p8 : lw_okq (⟨"RulePayroll", "payOne", "(II)V"⟩, 3) := ⟨⟨by decide +kernel, by decide +kernel⟩, List.mem_of_getElem? (i := 12) (by decide +kernel), List.mem_of_getElem? (i := 347) (by decide +kernel), List.mem_of_getElem? (i := 348) (by decide +kernel)⟩
theorem lw_p9 : lw_okq (⟨"RulePayroll", "unpayAll", "(I)V"⟩, 3) := ⟨⟨by decide +kernel, by decide +kernel⟩, List.mem_of_getElem? (i := 12) (by decide +kernel), List.mem_of_getElem? (i := 380) (by decide +kernel), List.mem_of_getElem? (i := 381) (by decide +kernel)⟩
theorem lw_p10 : lw_okq (⟨"RulePayroll$Runs", "totalOfRun", "(II)J"⟩, 4) := ⟨⟨by decide +kernel, by decide +kernel⟩, List.mem_of_getElem? (i := 127) (by decide +kernel), List.mem_of_getElem? (i := 418) (by decide +kernel), List.mem_of_getElem? (i := 419) (by decide +kernel)⟩
theorem lw_p11 : lw_okq (⟨"RulePayroll", "howManyActive", "()I"⟩, 3) := ⟨⟨by decide +kernel, by decide +kernel⟩, List.mem_of_getElem? (i := 12) (by decide +kernel), List.mem_of_getElem? (i := 441) (by decide +kernel), List.mem_of_getElem? (i := 442) (by decide +kernel)⟩
theorem lw_p12 : lw_okq (⟨"RulePayrollModel", "fits", "(IIII)Z"⟩, 21) := ⟨⟨by decide +kernel, by decide +kernel⟩, List.mem_of_getElem? (i := 449) (by decide +kernel), List.mem_of_getElem? (i := 523) (by decide +kernel), List.mem_of_getElem? (i := 524) (by decide +kernel)⟩
theorem lw_p13 : lw_okq (⟨"RulePayrollModel", "out", "(III)Z"⟩, 21) := ⟨⟨by decide +kernel, by decide +kernel⟩, List.mem_of_getElem? (i := 449) (by decide +kernel), List.mem_of_getElem? (i := 527) (by decide +kernel), List.mem_of_getElem? (i := 528) (by decide +kernel)⟩
theorem lw_p14 : lw_okq (⟨"RulePayrollModel", "named", "(I)I"⟩, 21) := ⟨⟨by decide +kernel, by decide +kernel⟩, List.mem_of_getElem? (i := 449) (by decide +kernel), List.mem_of_getElem? (i := 531) (by decide +kernel), List.mem_of_getElem? (i := 532) (by decide +kernel)⟩
theorem lw_p15 : lw_okq (⟨"RulePayrollModel", "isNode", "(I)Z"⟩, 21) := ⟨⟨by decide +kernel, by decide +kernel⟩, List.mem_of_getElem? (i := 449) (by decide +kernel), List.mem_of_getElem? (i := 535) (by decide +kernel), List.mem_of_getElem? (i := 536) (by decide +kernel)⟩
def lw_privs_1 : List (MethodName × Nat) := [(⟨"RulePayroll$Nodes", "operandsFit", "(IIII)Z"⟩, 8), (⟨"RulePayroll$Nodes", "firstFits", "(II)Z"⟩, 8), (⟨"RulePayroll$Nodes", "levelOf", "(I)I"⟩, 8), (⟨"RulePayroll$Nodes", "rankOf", "(I)I"⟩, 8), (⟨"RulePayroll$Nodes", "putInOrder", "(I)V"⟩, 8), (⟨"RulePayroll$Rules", "workedOut", "(ILRulePayroll$Person;)J"⟩, 4), (⟨"RulePayroll$Rules", "workedOrEmpty", "(I)J"⟩, 4), (⟨"RulePayroll", "payAll", "(I)V"⟩, 3), (⟨"RulePayroll", "payOne", "(II)V"⟩, 3), (⟨"RulePayroll", "unpayAll", "(I)V"⟩, 3), (⟨"RulePayroll$Runs", "totalOfRun", "(II)J"⟩, 4), (⟨"RulePayroll", "howManyActive", "()I"⟩, 3), (⟨"RulePayrollModel", "fits", "(IIII)Z"⟩, 21), (⟨"RulePayrollModel", "out", "(III)Z"⟩, 21), (⟨"RulePayrollModel", "named", "(I)I"⟩, 21), (⟨"RulePayrollModel", "isNode", "(I)Z"⟩, 21)]
theorem lw_r1 : ∀ q ∈ lw_privs_1, lw_okq q := List.forall_mem_cons.mpr ⟨lw_p0, List.forall_mem_cons.mpr ⟨lw_p1, List.forall_mem_cons.mpr ⟨lw_p2, List.forall_mem_cons.mpr ⟨lw_p3, List.forall_mem_cons.mpr ⟨lw_p4, List.forall_mem_cons.mpr ⟨lw_p5, List.forall_mem_cons.mpr ⟨lw_p6, List.forall_mem_cons.mpr ⟨lw_p7, List.forall_mem_cons.mpr ⟨lw_p8, List.forall_mem_cons.mpr ⟨lw_p9, List.forall_mem_cons.mpr ⟨lw_p10, List.forall_mem_cons.mpr ⟨lw_p11, List.forall_mem_cons.mpr ⟨lw_p12, List.forall_mem_cons.mpr ⟨lw_p13, List.forall_mem_cons.mpr ⟨lw_p14, List.forall_mem_cons.mpr ⟨lw_p15, fun _ h => absurd h List.not_mem_nil⟩⟩⟩⟩⟩⟩⟩⟩⟩⟩⟩⟩⟩⟩⟩⟩
theorem lw_p16 : lw_okq (⟨"RulePayrollModel", "high", "(IZI)I"⟩, 21) := ⟨⟨by decide +kernel, by decide +kernel⟩, List.mem_of_getElem? (i := 449) (by decide +kernel), List.mem_of_getElem? (i := 539) (by decide +kernel), List.mem_of_getElem? (i := 540) (by decide +kernel)⟩
theorem lw_p17 : lw_okq (⟨"RulePayrollModel", "paidWhole", "(I)Z"⟩, 21) := ⟨⟨by decide +kernel, by decide +kernel⟩, List.mem_of_getElem? (i := 449) (by decide +kernel), List.mem_of_getElem? (i := 571) (by decide +kernel), List.mem_of_getElem? (i := 572) (by decide +kernel)⟩
theorem lw_p18 : lw_okq (⟨"RulePayrollModel", "whole", "(J)Z"⟩, 21) := ⟨⟨by decide +kernel, by decide +kernel⟩, List.mem_of_getElem? (i := 449) (by decide +kernel), List.mem_of_getElem? (i := 575) (by decide +kernel), List.mem_of_getElem? (i := 576) (by decide +kernel)⟩
theorem lw_p19 : lw_okq (⟨"RulePayrollModel", "person", "(I)V"⟩, 21) := ⟨⟨by decide +kernel, by decide +kernel⟩, List.mem_of_getElem? (i := 449) (by decide +kernel), List.mem_of_getElem? (i := 582) (by decide +kernel), List.mem_of_getElem? (i := 583) (by decide +kernel)⟩
theorem lw_p20 : lw_okq (⟨"RulePayrollModel", "workOut", "(II)J"⟩, 21) := ⟨⟨by decide +kernel, by decide +kernel⟩, List.mem_of_getElem? (i := 449) (by decide +kernel), List.mem_of_getElem? (i := 587) (by decide +kernel), List.mem_of_getElem? (i := 588) (by decide +kernel)⟩
theorem lw_p21 : lw_okq (⟨"RulePayrollModel", "choose", "(II)J"⟩, 21) := ⟨⟨by decide +kernel, by decide +kernel⟩, List.mem_of_getElem? (i := 449) (by decide +kernel), List.mem_of_getElem? (i := 591) (by decide +kernel), List.mem_of_getElem? (i := 592) (by decide +kernel)⟩
theorem lw_p22 : lw_okq (⟨"RulePayrollModel", "stops", "(J)J"⟩, 21) := ⟨⟨by decide +kernel, by decide +kernel⟩, List.mem_of_getElem? (i := 449) (by decide +kernel), List.mem_of_getElem? (i := 598) (by decide +kernel), List.mem_of_getElem? (i := 599) (by decide +kernel)⟩
theorem lw_p23 : lw_okq (⟨"RulePayrollModel", "scale", "(IJ)J"⟩, 21) := ⟨⟨by decide +kernel, by decide +kernel⟩, List.mem_of_getElem? (i := 449) (by decide +kernel), List.mem_of_getElem? (i := 602) (by decide +kernel), List.mem_of_getElem? (i := 603) (by decide +kernel)⟩
theorem lw_p24 : lw_okq (⟨"RulePayrollModel", "rounded", "(JJ)J"⟩, 21) := ⟨⟨by decide +kernel, by decide +kernel⟩, List.mem_of_getElem? (i := 449) (by decide +kernel), List.mem_of_getElem? (i := 607) (by decide +kernel), List.mem_of_getElem? (i := 608) (by decide +kernel)⟩
theorem lw_p25 : lw_okq (⟨"RulePayrollModel", "ranged", "(J)J"⟩, 21) := ⟨⟨by decide +kernel, by decide +kernel⟩, List.mem_of_getElem? (i := 449) (by decide +kernel), List.mem_of_getElem? (i := 612) (by decide +kernel), List.mem_of_getElem? (i := 613) (by decide +kernel)⟩
theorem lw_p26 : lw_okq (⟨"RulePayrollModel", "plain", "(IJJ)J"⟩, 21) := ⟨⟨by decide +kernel, by decide +kernel⟩, List.mem_of_getElem? (i := 449) (by decide +kernel), List.mem_of_getElem? (i := 617) (by decide +kernel), List.mem_of_getElem? (i := 618) (by decide +kernel)⟩
theorem lw_p27 : lw_okq (⟨"RulePayrollModel", "payAll", "(I)V"⟩, 21) := ⟨⟨by decide +kernel, by decide +kernel⟩, List.mem_of_getElem? (i := 449) (by decide +kernel), List.mem_of_getElem? (i := 625) (by decide +kernel), List.mem_of_getElem? (i := 626) (by decide +kernel)⟩
theorem lw_p28 : lw_okq (⟨"RulePayrollModel", "payOne", "(II)I"⟩, 21) := ⟨⟨by decide +kernel, by decide +kernel⟩, List.mem_of_getElem? (i := 449) (by decide +kernel), List.mem_of_getElem? (i := 629) (by decide +kernel), List.mem_of_getElem? (i := 630) (by decide +kernel)⟩
theorem lw_p29 : lw_okq (⟨"RulePayrollModel", "takeBack", "(I)V"⟩, 21) := ⟨⟨by decide +kernel, by decide +kernel⟩, List.mem_of_getElem? (i := 449) (by decide +kernel), List.mem_of_getElem? (i := 637) (by decide +kernel), List.mem_of_getElem? (i := 638) (by decide +kernel)⟩
theorem lw_p30 : lw_okq (⟨"RulePayrollModel", "slips", "(I)I"⟩, 21) := ⟨⟨by decide +kernel, by decide +kernel⟩, List.mem_of_getElem? (i := 449) (by decide +kernel), List.mem_of_getElem? (i := 645) (by decide +kernel), List.mem_of_getElem? (i := 646) (by decide +kernel)⟩
def lw_privs_2 : List (MethodName × Nat) := [(⟨"RulePayrollModel", "high", "(IZI)I"⟩, 21), (⟨"RulePayrollModel", "paidWhole", "(I)Z"⟩, 21), (⟨"RulePayrollModel", "whole", "(J)Z"⟩, 21), (⟨"RulePayrollModel", "person", "(I)V"⟩, 21), (⟨"RulePayrollModel", "workOut", "(II)J"⟩, 21), (⟨"RulePayrollModel", "choose", "(II)J"⟩, 21), (⟨"RulePayrollModel", "stops", "(J)J"⟩, 21), (⟨"RulePayrollModel", "scale", "(IJ)J"⟩, 21), (⟨"RulePayrollModel", "rounded", "(JJ)J"⟩, 21), (⟨"RulePayrollModel", "ranged", "(J)J"⟩, 21), (⟨"RulePayrollModel", "plain", "(IJJ)J"⟩, 21), (⟨"RulePayrollModel", "payAll", "(I)V"⟩, 21), (⟨"RulePayrollModel", "payOne", "(II)I"⟩, 21), (⟨"RulePayrollModel", "takeBack", "(I)V"⟩, 21), (⟨"RulePayrollModel", "slips", "(I)I"⟩, 21)]
theorem lw_r2 : ∀ q ∈ lw_privs_2, lw_okq q := List.forall_mem_cons.mpr ⟨lw_p16, List.forall_mem_cons.mpr ⟨lw_p17, List.forall_mem_cons.mpr ⟨lw_p18, List.forall_mem_cons.mpr ⟨lw_p19, List.forall_mem_cons.mpr ⟨lw_p20, List.forall_mem_cons.mpr ⟨lw_p21, List.forall_mem_cons.mpr ⟨lw_p22, List.forall_mem_cons.mpr ⟨lw_p23, List.forall_mem_cons.mpr ⟨lw_p24, List.forall_mem_cons.mpr ⟨lw_p25, List.forall_mem_cons.mpr ⟨lw_p26, List.forall_mem_cons.mpr ⟨lw_p27, List.forall_mem_cons.mpr ⟨lw_p28, List.forall_mem_cons.mpr ⟨lw_p29, List.forall_mem_cons.mpr ⟨lw_p30, fun _ h => absurd h List.not_mem_nil⟩⟩⟩⟩⟩⟩⟩⟩⟩⟩⟩⟩⟩⟩⟩
def lw_privs : List (MethodName × Nat) := lw_privs_1 ++ (lw_privs_2)
def lw_tbl : List Cond := k2_sels lw_privs ++ tables_1
theorem lw_privs_ok : ∀ q ∈ lw_privs, lw_okq q := by
  show ∀ q ∈ lw_privs_1 ++ (lw_privs_2), lw_okq q
  exact List.forall_mem_append.mpr ⟨lw_r1, lw_r2⟩

def mm_GW : List Cond := lw_tbl.filter goodWord
theorem mm_in {w : Cond} (h : w ∈ lw_tbl) (g : goodWord w = true) : w ∈ mm_GW := List.mem_filter.mpr ⟨h, g⟩
theorem mm_GW_tbl : ∀ w ∈ mm_GW, w ∈ lw_tbl := fun _ h => (List.mem_filter.mp h).1
theorem mm_GW_self : GoodIn mm_GW mm_GW := fun w h => ⟨h, good_of_word (List.mem_filter.mp h).2⟩
theorem mm_GW_law : GoodIn lw_tbl mm_GW := fun w h => ⟨(List.mem_filter.mp h).1, good_of_word (List.mem_filter.mp h).2⟩
theorem mm_g1 {w : Cond} {ws : List Cond} (h : w ∈ mm_GW) (hs : GoodIn mm_GW ws) : GoodIn mm_GW (w :: ws) := fun x hx => (List.mem_cons.mp hx).elim (fun q => q ▸ mm_GW_self w h) (hs x)
theorem mm_gV {own C : String} {idx : Nat} {y : MethodName} {cw : Cond} (h1 : Cond.methodLink own idx y ∈ mm_GW) (h2 : Cond.instanceMethod y ∈ mm_GW) (h3 : Cond.selects C y y ∈ mm_GW) (h4 : Cond.initialized C ∈ mm_GW) (h5 : cw ∈ mm_GW) : GoodIn mm_GW (wsV own idx C y (cw :: mm_GW)) := mm_g1 h1 (mm_g1 h2 (mm_g1 h3 (mm_g1 h4 (mm_g1 h5 mm_GW_self))))
theorem mm_gS {own : String} {idx : Nat} {y : MethodName} {cw : Cond} (h1 : Cond.methodLink own idx y ∈ mm_GW) (h2 : Cond.static y ∈ mm_GW) (h4 : Cond.initialized y.cls ∈ mm_GW) (h5 : cw ∈ mm_GW) : GoodIn mm_GW (va_wsS own idx y (cw :: mm_GW)) := mm_g1 h1 (mm_g1 h2 (mm_g1 h4 (mm_g1 h5 mm_GW_self)))
abbrev RX6 : String := "RulePayroll"
abbrev RX7 : String := "RulePayrollModel"
abbrev RX0 : String := "RulePayroll$Nodes"
abbrev RX1 : String := "RulePayroll$Person"
abbrev RX2 : String := "RulePayroll$Rules"
abbrev RX3 : String := "RulePayroll$Runs"
abbrev RX4 : String := "RulePayroll$Table"
abbrev RX5 : String := "RulePayroll$Values"
abbrev RL : String := "RulePayrollLaw"
abbrev RJ7 : String := "java/util/Arrays"
def TX0 : u_T := fun k => match k with
  | 0 => ("RulePayroll$Nodes", "kinds", "[I", true)
  | 1 => ("RulePayroll$Nodes", "as", "[I", true)
  | 2 => ("RulePayroll$Nodes", "bs", "[I", true)
  | 3 => ("RulePayroll$Nodes", "cs", "[I", true)
  | 4 => ("RulePayroll$Nodes", "levels", "[I", true)
  | 5 => ("RulePayroll$Nodes", "ranks", "[I", true)
  | 6 => ("RulePayroll$Nodes", "order", "[I", true)
  | _ => ("RulePayroll$Nodes", "made", "I", false)
def tyX0 : Nat → FieldType := fun k => match k with
  | 0 => .array .int
  | 1 => .array .int
  | 2 => .array .int
  | 3 => .array .int
  | 4 => .array .int
  | 5 => .array .int
  | 6 => .array .int
  | _ => .int
theorem nmX0 : ∀ a, a < 8 → ∀ b, b < 8 → a ≠ b → (TX0 a).2.1 ≠ (TX0 b).2.1 := by decide +kernel
theorem tyX0_ok : ∀ k, k < 8 → parseFieldDescriptor (TX0 k).2.2.1 = some (tyX0 k) := by decide +kernel
theorem in_X0 : ∀ w ∈ u_ws RX0 TX0 8, w ∈ mm_GW := by
  have h : (u_ws RX0 TX0 8).all (fun w => decide (w ∈ lw_tbl) && goodWord w) = true := by decide +kernel
  intro w hw
  have h1 := List.all_eq_true.mp h w hw
  simp only [Bool.and_eq_true, decide_eq_true_eq] at h1
  exact mm_in h1.1 h1.2
def TX1 : u_T := fun k => match k with
  | 0 => ("RulePayroll$Person", "inputs", "[I", true)
  | 1 => ("RulePayroll$Person", "grossPaid", "J", false)
  | 2 => ("RulePayroll$Person", "taxPaid", "J", false)
  | _ => ("RulePayroll$Person", "active", "Z", false)
def tyX1 : Nat → FieldType := fun k => match k with
  | 0 => .array .int
  | 1 => .long
  | 2 => .long
  | _ => .boolean
theorem nmX1 : ∀ a, a < 4 → ∀ b, b < 4 → a ≠ b → (TX1 a).2.1 ≠ (TX1 b).2.1 := by decide +kernel
theorem tyX1_ok : ∀ k, k < 4 → parseFieldDescriptor (TX1 k).2.2.1 = some (tyX1 k) := by decide +kernel
theorem in_X1 : ∀ w ∈ u_ws RX1 TX1 4, w ∈ mm_GW := by
  have h : (u_ws RX1 TX1 4).all (fun w => decide (w ∈ lw_tbl) && goodWord w) = true := by decide +kernel
  intro w hw
  have h1 := List.all_eq_true.mp h w hw
  simp only [Bool.and_eq_true, decide_eq_true_eq] at h1
  exact mm_in h1.1 h1.2
def TX2 : u_T := fun k => match k with
  | 0 => ("RulePayroll$Rules", "nodes", "LRulePayroll$Nodes;", true)
  | 1 => ("RulePayroll$Rules", "definitions", "[I", true)
  | 2 => ("RulePayroll$Rules", "tables", "[LRulePayroll$Table;", true)
  | _ => ("RulePayroll$Rules", "worked", "[J", true)
def tyX2 : Nat → FieldType := fun k => match k with
  | 0 => .object "RulePayroll$Nodes"
  | 1 => .array .int
  | 2 => .array (.object "RulePayroll$Table")
  | _ => .array .long
theorem nmX2 : ∀ a, a < 4 → ∀ b, b < 4 → a ≠ b → (TX2 a).2.1 ≠ (TX2 b).2.1 := by decide +kernel
theorem tyX2_ok : ∀ k, k < 4 → parseFieldDescriptor (TX2 k).2.2.1 = some (tyX2 k) := by decide +kernel
theorem in_X2 : ∀ w ∈ u_ws RX2 TX2 4, w ∈ mm_GW := by
  have h : (u_ws RX2 TX2 4).all (fun w => decide (w ∈ lw_tbl) && goodWord w) = true := by decide +kernel
  intro w hw
  have h1 := List.all_eq_true.mp h w hw
  simp only [Bool.and_eq_true, decide_eq_true_eq] at h1
  exact mm_in h1.1 h1.2
def TX3 : u_T := fun k => match k with
  | 0 => ("RulePayroll$Runs", "amounts", "[J", true)
  | 1 => ("RulePayroll$Runs", "reasons", "[I", true)
  | 2 => ("RulePayroll$Runs", "takenBack", "[Z", true)
  | _ => ("RulePayroll$Runs", "made", "I", false)
def tyX3 : Nat → FieldType := fun k => match k with
  | 0 => .array .long
  | 1 => .array .int
  | 2 => .array .boolean
  | _ => .int
theorem nmX3 : ∀ a, a < 4 → ∀ b, b < 4 → a ≠ b → (TX3 a).2.1 ≠ (TX3 b).2.1 := by decide +kernel
theorem tyX3_ok : ∀ k, k < 4 → parseFieldDescriptor (TX3 k).2.2.1 = some (tyX3 k) := by decide +kernel
theorem in_X3 : ∀ w ∈ u_ws RX3 TX3 4, w ∈ mm_GW := by
  have h : (u_ws RX3 TX3 4).all (fun w => decide (w ∈ lw_tbl) && goodWord w) = true := by decide +kernel
  intro w hw
  have h1 := List.all_eq_true.mp h w hw
  simp only [Bool.and_eq_true, decide_eq_true_eq] at h1
  exact mm_in h1.1 h1.2
def TX4 : u_T := fun k => match k with
  | 0 => ("RulePayroll$Table", "limits", "[I", true)
  | 1 => ("RulePayroll$Table", "rates", "[I", true)
  | _ => ("RulePayroll$Table", "steps", "I", false)
def tyX4 : Nat → FieldType := fun k => match k with
  | 0 => .array .int
  | 1 => .array .int
  | _ => .int
theorem nmX4 : ∀ a, a < 3 → ∀ b, b < 3 → a ≠ b → (TX4 a).2.1 ≠ (TX4 b).2.1 := by decide +kernel
theorem tyX4_ok : ∀ k, k < 3 → parseFieldDescriptor (TX4 k).2.2.1 = some (tyX4 k) := by decide +kernel
theorem in_X4 : ∀ w ∈ u_ws RX4 TX4 3, w ∈ mm_GW := by
  have h : (u_ws RX4 TX4 3).all (fun w => decide (w ∈ lw_tbl) && goodWord w) = true := by decide +kernel
  intro w hw
  have h1 := List.all_eq_true.mp h w hw
  simp only [Bool.and_eq_true, decide_eq_true_eq] at h1
  exact mm_in h1.1 h1.2
def TX6 : u_T := fun k => match k with
  | 0 => ("RulePayroll", "rules", "LRulePayroll$Rules;", true)
  | 1 => ("RulePayroll", "persons", "[LRulePayroll$Person;", true)
  | _ => ("RulePayroll", "runs", "LRulePayroll$Runs;", true)
def tyX6 : Nat → FieldType := fun k => match k with
  | 0 => .object "RulePayroll$Rules"
  | 1 => .array (.object "RulePayroll$Person")
  | _ => .object "RulePayroll$Runs"
theorem nmX6 : ∀ a, a < 3 → ∀ b, b < 3 → a ≠ b → (TX6 a).2.1 ≠ (TX6 b).2.1 := by decide +kernel
theorem tyX6_ok : ∀ k, k < 3 → parseFieldDescriptor (TX6 k).2.2.1 = some (tyX6 k) := by decide +kernel
theorem in_X6 : ∀ w ∈ u_ws RX6 TX6 3, w ∈ mm_GW := by
  have h : (u_ws RX6 TX6 3).all (fun w => decide (w ∈ lw_tbl) && goodWord w) = true := by decide +kernel
  intro w hw
  have h1 := List.all_eq_true.mp h w hw
  simp only [Bool.and_eq_true, decide_eq_true_eq] at h1
  exact mm_in h1.1 h1.2
def TX7 : u_T := fun k => match k with
  | 0 => ("RulePayrollModel", "nodes", "I", false)
  | 1 => ("RulePayrollModel", "runs", "I", false)
  | 2 => ("RulePayrollModel", "kind", "[I", true)
  | 3 => ("RulePayrollModel", "opA", "[I", true)
  | 4 => ("RulePayrollModel", "opB", "[I", true)
  | 5 => ("RulePayrollModel", "opC", "[I", true)
  | 6 => ("RulePayrollModel", "level", "[I", true)
  | 7 => ("RulePayrollModel", "rank", "[I", true)
  | 8 => ("RulePayrollModel", "definition", "[I", true)
  | 9 => ("RulePayrollModel", "steps", "[I", true)
  | 10 => ("RulePayrollModel", "limit", "[I", true)
  | 11 => ("RulePayrollModel", "rate", "[I", true)
  | 12 => ("RulePayrollModel", "inputs", "[I", true)
  | 13 => ("RulePayrollModel", "active", "[Z", true)
  | 14 => ("RulePayrollModel", "taken", "[Z", true)
  | 15 => ("RulePayrollModel", "has", "[Z", true)
  | 16 => ("RulePayrollModel", "reason", "[I", true)
  | 17 => ("RulePayrollModel", "slip", "[J", true)
  | 18 => ("RulePayrollModel", "paid", "[J", true)
  | 19 => ("RulePayrollModel", "is", "[J", true)
  | _ => ("RulePayrollModel", "defined", "[J", true)
def tyX7 : Nat → FieldType := fun k => match k with
  | 0 => .int
  | 1 => .int
  | 2 => .array .int
  | 3 => .array .int
  | 4 => .array .int
  | 5 => .array .int
  | 6 => .array .int
  | 7 => .array .int
  | 8 => .array .int
  | 9 => .array .int
  | 10 => .array .int
  | 11 => .array .int
  | 12 => .array .int
  | 13 => .array .boolean
  | 14 => .array .boolean
  | 15 => .array .boolean
  | 16 => .array .int
  | 17 => .array .long
  | 18 => .array .long
  | 19 => .array .long
  | _ => .array .long
theorem nmX7 : ∀ a, a < 21 → ∀ b, b < 21 → a ≠ b → (TX7 a).2.1 ≠ (TX7 b).2.1 := by decide +kernel
theorem tyX7_ok : ∀ k, k < 21 → parseFieldDescriptor (TX7 k).2.2.1 = some (tyX7 k) := by decide +kernel
theorem in_X7 : ∀ w ∈ u_ws RX7 TX7 21, w ∈ mm_GW := by
  have h : (u_ws RX7 TX7 21).all (fun w => decide (w ∈ lw_tbl) && goodWord w) = true := by decide +kernel
  intro w hw
  have h1 := List.all_eq_true.mp h w hw
  simp only [Bool.and_eq_true, decide_eq_true_eq] at h1
  exact mm_in h1.1 h1.2
abbrev vwCl : List vw_C := [(RX0, TX0, 8), (RX1, TX1, 4), (RX2, TX2, 4), (RX3, TX3, 4), (RX4, TX4, 3), (RX6, TX6, 3), (RX7, TX7, 21)]
abbrev c_X6_init : ByteArray := prog_1_method_1_code
abbrev y_X6_init : MethodName := ⟨"RulePayroll", "<init>", "()V"⟩
abbrev cw_X6_init : Cond := .code y_X6_init c_X6_init 2 none
def w_X6_init : List Cond := cw_X6_init :: mm_GW
set_option maxRecDepth 100000 in
theorem kc_X6_init : cw_X6_init ∈ mm_GW := mm_in (List.mem_of_getElem? (i := 46) rfl) rfl
abbrev c_X6_node : ByteArray := prog_1_method_2_code
abbrev y_X6_node : MethodName := ⟨"RulePayroll", "node", "(IIII)I"⟩
abbrev cw_X6_node : Cond := .code y_X6_node c_X6_node 5 (some .int)
def w_X6_node : List Cond := cw_X6_node :: mm_GW
set_option maxRecDepth 100000 in
theorem kc_X6_node : cw_X6_node ∈ mm_GW := mm_in (List.mem_of_getElem? (i := 193) rfl) rfl
abbrev c_X6_define : ByteArray := prog_1_method_3_code
abbrev y_X6_define : MethodName := ⟨"RulePayroll", "define", "(II)I"⟩
abbrev cw_X6_define : Cond := .code y_X6_define c_X6_define 3 (some .int)
def w_X6_define : List Cond := cw_X6_define :: mm_GW
set_option maxRecDepth 100000 in
theorem kc_X6_define : cw_X6_define ∈ mm_GW := mm_in (List.mem_of_getElem? (i := 236) rfl) rfl
abbrev c_X6_undefine : ByteArray := prog_1_method_4_code
abbrev y_X6_undefine : MethodName := ⟨"RulePayroll", "undefine", "(I)I"⟩
abbrev cw_X6_undefine : Cond := .code y_X6_undefine c_X6_undefine 2 (some .int)
def w_X6_undefine : List Cond := cw_X6_undefine :: mm_GW
set_option maxRecDepth 100000 in
theorem kc_X6_undefine : cw_X6_undefine ∈ mm_GW := mm_in (List.mem_of_getElem? (i := 242) rfl) rfl
abbrev c_X6_step : ByteArray := prog_1_method_5_code
abbrev y_X6_step : MethodName := ⟨"RulePayroll", "step", "(III)I"⟩
abbrev cw_X6_step : Cond := .code y_X6_step c_X6_step 4 (some .int)
def w_X6_step : List Cond := cw_X6_step :: mm_GW
set_option maxRecDepth 100000 in
theorem kc_X6_step : cw_X6_step ∈ mm_GW := mm_in (List.mem_of_getElem? (i := 246) rfl) rfl
abbrev c_X6_clear : ByteArray := prog_1_method_6_code
abbrev y_X6_clear : MethodName := ⟨"RulePayroll", "clear", "(I)I"⟩
abbrev cw_X6_clear : Cond := .code y_X6_clear c_X6_clear 2 (some .int)
def w_X6_clear : List Cond := cw_X6_clear :: mm_GW
set_option maxRecDepth 100000 in
theorem kc_X6_clear : cw_X6_clear ∈ mm_GW := mm_in (List.mem_of_getElem? (i := 254) rfl) rfl
abbrev c_X6_input : ByteArray := prog_1_method_7_code
abbrev y_X6_input : MethodName := ⟨"RulePayroll", "input", "(III)I"⟩
abbrev cw_X6_input : Cond := .code y_X6_input c_X6_input 4 (some .int)
def w_X6_input : List Cond := cw_X6_input :: mm_GW
set_option maxRecDepth 100000 in
theorem kc_X6_input : cw_X6_input ∈ mm_GW := mm_in (List.mem_of_getElem? (i := 262) rfl) rfl
abbrev c_X6_activate : ByteArray := prog_1_method_8_code
abbrev y_X6_activate : MethodName := ⟨"RulePayroll", "activate", "(IZ)I"⟩
abbrev cw_X6_activate : Cond := .code y_X6_activate c_X6_activate 3 (some .int)
def w_X6_activate : List Cond := cw_X6_activate :: mm_GW
set_option maxRecDepth 100000 in
theorem kc_X6_activate : cw_X6_activate ∈ mm_GW := mm_in (List.mem_of_getElem? (i := 266) rfl) rfl
abbrev c_X6_value : ByteArray := prog_1_method_9_code
abbrev y_X6_value : MethodName := ⟨"RulePayroll", "value", "(II)J"⟩
abbrev cw_X6_value : Cond := .code y_X6_value c_X6_value 3 (some .long)
def w_X6_value : List Cond := cw_X6_value :: mm_GW
set_option maxRecDepth 100000 in
theorem kc_X6_value : cw_X6_value ∈ mm_GW := mm_in (List.mem_of_getElem? (i := 270) rfl) rfl
abbrev c_X6_pay : ByteArray := prog_1_method_10_code
abbrev y_X6_pay : MethodName := ⟨"RulePayroll", "pay", "()I"⟩
abbrev cw_X6_pay : Cond := .code y_X6_pay c_X6_pay 2 (some .int)
def w_X6_pay : List Cond := cw_X6_pay :: mm_GW
set_option maxRecDepth 100000 in
theorem kc_X6_pay : cw_X6_pay ∈ mm_GW := mm_in (List.mem_of_getElem? (i := 356) rfl) rfl
abbrev c_X6_back : ByteArray := prog_1_method_11_code
abbrev y_X6_back : MethodName := ⟨"RulePayroll", "back", "(I)I"⟩
abbrev cw_X6_back : Cond := .code y_X6_back c_X6_back 2 (some .int)
def w_X6_back : List Cond := cw_X6_back :: mm_GW
set_option maxRecDepth 100000 in
theorem kc_X6_back : cw_X6_back ∈ mm_GW := mm_in (List.mem_of_getElem? (i := 400) rfl) rfl
abbrev c_X6_again : ByteArray := prog_1_method_12_code
abbrev y_X6_again : MethodName := ⟨"RulePayroll", "again", "(I)I"⟩
abbrev cw_X6_again : Cond := .code y_X6_again c_X6_again 2 (some .int)
def w_X6_again : List Cond := cw_X6_again :: mm_GW
set_option maxRecDepth 100000 in
theorem kc_X6_again : cw_X6_again ∈ mm_GW := mm_in (List.mem_of_getElem? (i := 425) rfl) rfl
abbrev c_X6_slip : ByteArray := prog_1_method_13_code
abbrev y_X6_slip : MethodName := ⟨"RulePayroll", "slip", "(III)J"⟩
abbrev cw_X6_slip : Cond := .code y_X6_slip c_X6_slip 4 (some .long)
def w_X6_slip : List Cond := cw_X6_slip :: mm_GW
set_option maxRecDepth 100000 in
theorem kc_X6_slip : cw_X6_slip ∈ mm_GW := mm_in (List.mem_of_getElem? (i := 434) rfl) rfl
abbrev c_X6_held : ByteArray := prog_1_method_14_code
abbrev y_X6_held : MethodName := ⟨"RulePayroll", "held", "(II)I"⟩
abbrev cw_X6_held : Cond := .code y_X6_held c_X6_held 3 (some .int)
def w_X6_held : List Cond := cw_X6_held :: mm_GW
set_option maxRecDepth 100000 in
theorem kc_X6_held : cw_X6_held ∈ mm_GW := mm_in (List.mem_of_getElem? (i := 439) rfl) rfl
abbrev c_X6_account : ByteArray := prog_1_method_15_code
abbrev y_X6_account : MethodName := ⟨"RulePayroll", "account", "(I)J"⟩
abbrev cw_X6_account : Cond := .code y_X6_account c_X6_account 2 (some .long)
def w_X6_account : List Cond := cw_X6_account :: mm_GW
set_option maxRecDepth 100000 in
theorem kc_X6_account : cw_X6_account ∈ mm_GW := mm_in (List.mem_of_getElem? (i := 443) rfl) rfl
abbrev c_X6_paid : ByteArray := prog_1_method_16_code
abbrev y_X6_paid : MethodName := ⟨"RulePayroll", "paid", "(II)J"⟩
abbrev cw_X6_paid : Cond := .code y_X6_paid c_X6_paid 3 (some .long)
def w_X6_paid : List Cond := cw_X6_paid :: mm_GW
set_option maxRecDepth 100000 in
theorem kc_X6_paid : cw_X6_paid ∈ mm_GW := mm_in (List.mem_of_getElem? (i := 456) rfl) rfl
abbrev c_X6_count : ByteArray := prog_1_method_17_code
abbrev y_X6_count : MethodName := ⟨"RulePayroll", "count", "(I)I"⟩
abbrev cw_X6_count : Cond := .code y_X6_count c_X6_count 2 (some .int)
def w_X6_count : List Cond := cw_X6_count :: mm_GW
set_option maxRecDepth 100000 in
theorem kc_X6_count : cw_X6_count ∈ mm_GW := mm_in (List.mem_of_getElem? (i := 461) rfl) rfl
abbrev c_X6_within : ByteArray := prog_1_method_18_code
abbrev y_X6_within : MethodName := ⟨"RulePayroll", "within", "(II)Z"⟩
abbrev cw_X6_within : Cond := .code y_X6_within c_X6_within 2 (some .boolean)
def w_X6_within : List Cond := cw_X6_within :: mm_GW
set_option maxRecDepth 100000 in
theorem kc_X6_within : cw_X6_within ∈ mm_GW := mm_in (List.mem_of_getElem? (i := 200) rfl) rfl
abbrev c_X6_howManyActive : ByteArray := prog_1_method_19_code
abbrev y_X6_howManyActive : MethodName := ⟨"RulePayroll", "howManyActive", "()I"⟩
abbrev cw_X6_howManyActive : Cond := .code y_X6_howManyActive c_X6_howManyActive 3 (some .int)
def w_X6_howManyActive : List Cond := cw_X6_howManyActive :: mm_GW
set_option maxRecDepth 100000 in
theorem kc_X6_howManyActive : cw_X6_howManyActive ∈ mm_GW := mm_in (List.mem_of_getElem? (i := 474) rfl) rfl
abbrev c_X6_payAll : ByteArray := prog_1_method_20_code
abbrev y_X6_payAll : MethodName := ⟨"RulePayroll", "payAll", "(I)V"⟩
abbrev cw_X6_payAll : Cond := .code y_X6_payAll c_X6_payAll 3 none
def w_X6_payAll : List Cond := cw_X6_payAll :: mm_GW
set_option maxRecDepth 100000 in
theorem kc_X6_payAll : cw_X6_payAll ∈ mm_GW := mm_in (List.mem_of_getElem? (i := 360) rfl) rfl
abbrev c_X6_payOne : ByteArray := prog_1_method_21_code
abbrev y_X6_payOne : MethodName := ⟨"RulePayroll", "payOne", "(II)V"⟩
abbrev cw_X6_payOne : Cond := .code y_X6_payOne c_X6_payOne 11 none
def w_X6_payOne : List Cond := cw_X6_payOne :: mm_GW
set_option maxRecDepth 100000 in
theorem kc_X6_payOne : cw_X6_payOne ∈ mm_GW := mm_in (List.mem_of_getElem? (i := 380) rfl) rfl
abbrev c_X6_unpayAll : ByteArray := prog_1_method_22_code
abbrev y_X6_unpayAll : MethodName := ⟨"RulePayroll", "unpayAll", "(I)V"⟩
abbrev cw_X6_unpayAll : Cond := .code y_X6_unpayAll c_X6_unpayAll 3 none
def w_X6_unpayAll : List Cond := cw_X6_unpayAll :: mm_GW
set_option maxRecDepth 100000 in
theorem kc_X6_unpayAll : cw_X6_unpayAll ∈ mm_GW := mm_in (List.mem_of_getElem? (i := 413) rfl) rfl
abbrev c_X7_init : ByteArray := prog_9_method_1_code
abbrev y_X7_init : MethodName := ⟨"RulePayrollModel", "<init>", "()V"⟩
abbrev cw_X7_init : Cond := .code y_X7_init c_X7_init 2 none
def w_X7_init : List Cond := cw_X7_init :: mm_GW
set_option maxRecDepth 100000 in
theorem kc_X7_init : cw_X7_init ∈ mm_GW := mm_in (List.mem_of_getElem? (i := 483) rfl) rfl
abbrev c_X7_out : ByteArray := prog_9_method_2_code
abbrev y_X7_out : MethodName := ⟨"RulePayrollModel", "out", "(III)Z"⟩
abbrev cw_X7_out : Cond := .code y_X7_out c_X7_out 4 (some .boolean)
def w_X7_out : List Cond := cw_X7_out :: mm_GW
set_option maxRecDepth 100000 in
theorem kc_X7_out : cw_X7_out ∈ mm_GW := mm_in (List.mem_of_getElem? (i := 560) rfl) rfl
abbrev c_X7_isNode : ByteArray := prog_9_method_3_code
abbrev y_X7_isNode : MethodName := ⟨"RulePayrollModel", "isNode", "(I)Z"⟩
abbrev cw_X7_isNode : Cond := .code y_X7_isNode c_X7_isNode 2 (some .boolean)
def w_X7_isNode : List Cond := cw_X7_isNode :: mm_GW
set_option maxRecDepth 100000 in
theorem kc_X7_isNode : cw_X7_isNode ∈ mm_GW := mm_in (List.mem_of_getElem? (i := 568) rfl) rfl
abbrev c_X7_named : ByteArray := prog_9_method_4_code
abbrev y_X7_named : MethodName := ⟨"RulePayrollModel", "named", "(I)I"⟩
abbrev cw_X7_named : Cond := .code y_X7_named c_X7_named 2 (some .int)
def w_X7_named : List Cond := cw_X7_named :: mm_GW
set_option maxRecDepth 100000 in
theorem kc_X7_named : cw_X7_named ∈ mm_GW := mm_in (List.mem_of_getElem? (i := 564) rfl) rfl
abbrev c_X7_fits : ByteArray := prog_9_method_5_code
abbrev y_X7_fits : MethodName := ⟨"RulePayrollModel", "fits", "(IIII)Z"⟩
abbrev cw_X7_fits : Cond := .code y_X7_fits c_X7_fits 6 (some .boolean)
def w_X7_fits : List Cond := cw_X7_fits :: mm_GW
set_option maxRecDepth 100000 in
theorem kc_X7_fits : cw_X7_fits ∈ mm_GW := mm_in (List.mem_of_getElem? (i := 556) rfl) rfl
abbrev c_X7_high : ByteArray := prog_9_method_6_code
abbrev y_X7_high : MethodName := ⟨"RulePayrollModel", "high", "(IZI)I"⟩
abbrev cw_X7_high : Cond := .code y_X7_high c_X7_high 4 (some .int)
def w_X7_high : List Cond := cw_X7_high :: mm_GW
set_option maxRecDepth 100000 in
theorem kc_X7_high : cw_X7_high ∈ mm_GW := mm_in (List.mem_of_getElem? (i := 572) rfl) rfl
abbrev c_X7_node : ByteArray := prog_9_method_7_code
abbrev y_X7_node : MethodName := ⟨"RulePayrollModel", "node", "(IIII)I"⟩
abbrev cw_X7_node : Cond := .code y_X7_node c_X7_node 11 (some .int)
def w_X7_node : List Cond := cw_X7_node :: mm_GW
set_option maxRecDepth 100000 in
theorem kc_X7_node : cw_X7_node ∈ mm_GW := mm_in (List.mem_of_getElem? (i := 552) rfl) rfl
abbrev c_X7_define : ByteArray := prog_9_method_8_code
abbrev y_X7_define : MethodName := ⟨"RulePayrollModel", "define", "(II)I"⟩
abbrev cw_X7_define : Cond := .code y_X7_define c_X7_define 3 (some .int)
def w_X7_define : List Cond := cw_X7_define :: mm_GW
set_option maxRecDepth 100000 in
theorem kc_X7_define : cw_X7_define ∈ mm_GW := mm_in (List.mem_of_getElem? (i := 576) rfl) rfl
abbrev c_X7_undefine : ByteArray := prog_9_method_9_code
abbrev y_X7_undefine : MethodName := ⟨"RulePayrollModel", "undefine", "(I)I"⟩
abbrev cw_X7_undefine : Cond := .code y_X7_undefine c_X7_undefine 2 (some .int)
def w_X7_undefine : List Cond := cw_X7_undefine :: mm_GW
set_option maxRecDepth 100000 in
theorem kc_X7_undefine : cw_X7_undefine ∈ mm_GW := mm_in (List.mem_of_getElem? (i := 580) rfl) rfl
abbrev c_X7_step : ByteArray := prog_9_method_10_code
abbrev y_X7_step : MethodName := ⟨"RulePayrollModel", "step", "(III)I"⟩
abbrev cw_X7_step : Cond := .code y_X7_step c_X7_step 4 (some .int)
def w_X7_step : List Cond := cw_X7_step :: mm_GW
set_option maxRecDepth 100000 in
theorem kc_X7_step : cw_X7_step ∈ mm_GW := mm_in (List.mem_of_getElem? (i := 584) rfl) rfl
abbrev c_X7_clear : ByteArray := prog_9_method_11_code
abbrev y_X7_clear : MethodName := ⟨"RulePayrollModel", "clear", "(I)I"⟩
abbrev cw_X7_clear : Cond := .code y_X7_clear c_X7_clear 3 (some .int)
def w_X7_clear : List Cond := cw_X7_clear :: mm_GW
set_option maxRecDepth 100000 in
theorem kc_X7_clear : cw_X7_clear ∈ mm_GW := mm_in (List.mem_of_getElem? (i := 588) rfl) rfl
abbrev c_X7_input : ByteArray := prog_9_method_12_code
abbrev y_X7_input : MethodName := ⟨"RulePayrollModel", "input", "(III)I"⟩
abbrev cw_X7_input : Cond := .code y_X7_input c_X7_input 4 (some .int)
def w_X7_input : List Cond := cw_X7_input :: mm_GW
set_option maxRecDepth 100000 in
theorem kc_X7_input : cw_X7_input ∈ mm_GW := mm_in (List.mem_of_getElem? (i := 592) rfl) rfl
abbrev c_X7_activate : ByteArray := prog_9_method_13_code
abbrev y_X7_activate : MethodName := ⟨"RulePayrollModel", "activate", "(IZ)I"⟩
abbrev cw_X7_activate : Cond := .code y_X7_activate c_X7_activate 3 (some .int)
def w_X7_activate : List Cond := cw_X7_activate :: mm_GW
set_option maxRecDepth 100000 in
theorem kc_X7_activate : cw_X7_activate ∈ mm_GW := mm_in (List.mem_of_getElem? (i := 596) rfl) rfl
abbrev c_X7_whole : ByteArray := prog_9_method_14_code
abbrev y_X7_whole : MethodName := ⟨"RulePayrollModel", "whole", "(J)Z"⟩
abbrev cw_X7_whole : Cond := .code y_X7_whole c_X7_whole 3 (some .boolean)
def w_X7_whole : List Cond := cw_X7_whole :: mm_GW
set_option maxRecDepth 100000 in
theorem kc_X7_whole : cw_X7_whole ∈ mm_GW := mm_in (List.mem_of_getElem? (i := 608) rfl) rfl
abbrev c_X7_ranged : ByteArray := prog_9_method_15_code
abbrev y_X7_ranged : MethodName := ⟨"RulePayrollModel", "ranged", "(J)J"⟩
abbrev cw_X7_ranged : Cond := .code y_X7_ranged c_X7_ranged 3 (some .long)
def w_X7_ranged : List Cond := cw_X7_ranged :: mm_GW
set_option maxRecDepth 100000 in
theorem kc_X7_ranged : cw_X7_ranged ∈ mm_GW := mm_in (List.mem_of_getElem? (i := 645) rfl) rfl
abbrev c_X7_rounded : ByteArray := prog_9_method_16_code
abbrev y_X7_rounded : MethodName := ⟨"RulePayrollModel", "rounded", "(JJ)J"⟩
abbrev cw_X7_rounded : Cond := .code y_X7_rounded c_X7_rounded 13 (some .long)
def w_X7_rounded : List Cond := cw_X7_rounded :: mm_GW
set_option maxRecDepth 100000 in
theorem kc_X7_rounded : cw_X7_rounded ∈ mm_GW := mm_in (List.mem_of_getElem? (i := 640) rfl) rfl
abbrev c_X7_stops : ByteArray := prog_9_method_17_code
abbrev y_X7_stops : MethodName := ⟨"RulePayrollModel", "stops", "(J)J"⟩
abbrev cw_X7_stops : Cond := .code y_X7_stops c_X7_stops 3 (some .long)
def w_X7_stops : List Cond := cw_X7_stops :: mm_GW
set_option maxRecDepth 100000 in
theorem kc_X7_stops : cw_X7_stops ∈ mm_GW := mm_in (List.mem_of_getElem? (i := 631) rfl) rfl
abbrev c_X7_scale : ByteArray := prog_9_method_18_code
abbrev y_X7_scale : MethodName := ⟨"RulePayrollModel", "scale", "(IJ)J"⟩
abbrev cw_X7_scale : Cond := .code y_X7_scale c_X7_scale 11 (some .long)
def w_X7_scale : List Cond := cw_X7_scale :: mm_GW
set_option maxRecDepth 100000 in
theorem kc_X7_scale : cw_X7_scale ∈ mm_GW := mm_in (List.mem_of_getElem? (i := 635) rfl) rfl
abbrev c_X7_plain : ByteArray := prog_9_method_19_code
abbrev y_X7_plain : MethodName := ⟨"RulePayrollModel", "plain", "(IJJ)J"⟩
abbrev cw_X7_plain : Cond := .code y_X7_plain c_X7_plain 6 (some .long)
def w_X7_plain : List Cond := cw_X7_plain :: mm_GW
set_option maxRecDepth 100000 in
theorem kc_X7_plain : cw_X7_plain ∈ mm_GW := mm_in (List.mem_of_getElem? (i := 650) rfl) rfl
abbrev c_X7_choose : ByteArray := prog_9_method_20_code
abbrev y_X7_choose : MethodName := ⟨"RulePayrollModel", "choose", "(II)J"⟩
abbrev cw_X7_choose : Cond := .code y_X7_choose c_X7_choose 7 (some .long)
def w_X7_choose : List Cond := cw_X7_choose :: mm_GW
set_option maxRecDepth 100000 in
theorem kc_X7_choose : cw_X7_choose ∈ mm_GW := mm_in (List.mem_of_getElem? (i := 624) rfl) rfl
abbrev c_X7_workOut : ByteArray := prog_9_method_21_code
abbrev y_X7_workOut : MethodName := ⟨"RulePayrollModel", "workOut", "(II)J"⟩
abbrev cw_X7_workOut : Cond := .code y_X7_workOut c_X7_workOut 11 (some .long)
def w_X7_workOut : List Cond := cw_X7_workOut :: mm_GW
set_option maxRecDepth 100000 in
theorem kc_X7_workOut : cw_X7_workOut ∈ mm_GW := mm_in (List.mem_of_getElem? (i := 620) rfl) rfl
abbrev c_X7_person : ByteArray := prog_9_method_22_code
abbrev y_X7_person : MethodName := ⟨"RulePayrollModel", "person", "(I)V"⟩
abbrev cw_X7_person : Cond := .code y_X7_person c_X7_person 4 none
def w_X7_person : List Cond := cw_X7_person :: mm_GW
set_option maxRecDepth 100000 in
theorem kc_X7_person : cw_X7_person ∈ mm_GW := mm_in (List.mem_of_getElem? (i := 615) rfl) rfl
abbrev c_X7_paidWhole : ByteArray := prog_9_method_23_code
abbrev y_X7_paidWhole : MethodName := ⟨"RulePayrollModel", "paidWhole", "(I)Z"⟩
abbrev cw_X7_paidWhole : Cond := .code y_X7_paidWhole c_X7_paidWhole 2 (some .boolean)
def w_X7_paidWhole : List Cond := cw_X7_paidWhole :: mm_GW
set_option maxRecDepth 100000 in
theorem kc_X7_paidWhole : cw_X7_paidWhole ∈ mm_GW := mm_in (List.mem_of_getElem? (i := 604) rfl) rfl
abbrev c_X7_value : ByteArray := prog_9_method_24_code
abbrev y_X7_value : MethodName := ⟨"RulePayrollModel", "value", "(II)J"⟩
abbrev cw_X7_value : Cond := .code y_X7_value c_X7_value 3 (some .long)
def w_X7_value : List Cond := cw_X7_value :: mm_GW
set_option maxRecDepth 100000 in
theorem kc_X7_value : cw_X7_value ∈ mm_GW := mm_in (List.mem_of_getElem? (i := 600) rfl) rfl
abbrev c_X7_payOne : ByteArray := prog_9_method_25_code
abbrev y_X7_payOne : MethodName := ⟨"RulePayrollModel", "payOne", "(II)I"⟩
abbrev cw_X7_payOne : Cond := .code y_X7_payOne c_X7_payOne 4 (some .int)
def w_X7_payOne : List Cond := cw_X7_payOne :: mm_GW
set_option maxRecDepth 100000 in
theorem kc_X7_payOne : cw_X7_payOne ∈ mm_GW := mm_in (List.mem_of_getElem? (i := 662) rfl) rfl
abbrev c_X7_payAll : ByteArray := prog_9_method_26_code
abbrev y_X7_payAll : MethodName := ⟨"RulePayrollModel", "payAll", "(I)V"⟩
abbrev cw_X7_payAll : Cond := .code y_X7_payAll c_X7_payAll 3 none
def w_X7_payAll : List Cond := cw_X7_payAll :: mm_GW
set_option maxRecDepth 100000 in
theorem kc_X7_payAll : cw_X7_payAll ∈ mm_GW := mm_in (List.mem_of_getElem? (i := 658) rfl) rfl
abbrev c_X7_pay : ByteArray := prog_9_method_27_code
abbrev y_X7_pay : MethodName := ⟨"RulePayrollModel", "pay", "()I"⟩
abbrev cw_X7_pay : Cond := .code y_X7_pay c_X7_pay 1 (some .int)
def w_X7_pay : List Cond := cw_X7_pay :: mm_GW
set_option maxRecDepth 100000 in
theorem kc_X7_pay : cw_X7_pay ∈ mm_GW := mm_in (List.mem_of_getElem? (i := 654) rfl) rfl
abbrev c_X7_takeBack : ByteArray := prog_9_method_28_code
abbrev y_X7_takeBack : MethodName := ⟨"RulePayrollModel", "takeBack", "(I)V"⟩
abbrev cw_X7_takeBack : Cond := .code y_X7_takeBack c_X7_takeBack 4 none
def w_X7_takeBack : List Cond := cw_X7_takeBack :: mm_GW
set_option maxRecDepth 100000 in
theorem kc_X7_takeBack : cw_X7_takeBack ∈ mm_GW := mm_in (List.mem_of_getElem? (i := 670) rfl) rfl
abbrev c_X7_back : ByteArray := prog_9_method_29_code
abbrev y_X7_back : MethodName := ⟨"RulePayrollModel", "back", "(I)I"⟩
abbrev cw_X7_back : Cond := .code y_X7_back c_X7_back 2 (some .int)
def w_X7_back : List Cond := cw_X7_back :: mm_GW
set_option maxRecDepth 100000 in
theorem kc_X7_back : cw_X7_back ∈ mm_GW := mm_in (List.mem_of_getElem? (i := 666) rfl) rfl
abbrev c_X7_slips : ByteArray := prog_9_method_30_code
abbrev y_X7_slips : MethodName := ⟨"RulePayrollModel", "slips", "(I)I"⟩
abbrev cw_X7_slips : Cond := .code y_X7_slips c_X7_slips 4 (some .int)
def w_X7_slips : List Cond := cw_X7_slips :: mm_GW
set_option maxRecDepth 100000 in
theorem kc_X7_slips : cw_X7_slips ∈ mm_GW := mm_in (List.mem_of_getElem? (i := 678) rfl) rfl
abbrev c_X7_again : ByteArray := prog_9_method_31_code
abbrev y_X7_again : MethodName := ⟨"RulePayrollModel", "again", "(I)I"⟩
abbrev cw_X7_again : Cond := .code y_X7_again c_X7_again 2 (some .int)
def w_X7_again : List Cond := cw_X7_again :: mm_GW
set_option maxRecDepth 100000 in
theorem kc_X7_again : cw_X7_again ∈ mm_GW := mm_in (List.mem_of_getElem? (i := 674) rfl) rfl
abbrev c_X7_slip : ByteArray := prog_9_method_32_code
abbrev y_X7_slip : MethodName := ⟨"RulePayrollModel", "slip", "(III)J"⟩
abbrev cw_X7_slip : Cond := .code y_X7_slip c_X7_slip 4 (some .long)
def w_X7_slip : List Cond := cw_X7_slip :: mm_GW
set_option maxRecDepth 100000 in
theorem kc_X7_slip : cw_X7_slip ∈ mm_GW := mm_in (List.mem_of_getElem? (i := 682) rfl) rfl
abbrev c_X7_held : ByteArray := prog_9_method_33_code
abbrev y_X7_held : MethodName := ⟨"RulePayrollModel", "held", "(II)I"⟩
abbrev cw_X7_held : Cond := .code y_X7_held c_X7_held 3 (some .int)
def w_X7_held : List Cond := cw_X7_held :: mm_GW
set_option maxRecDepth 100000 in
theorem kc_X7_held : cw_X7_held ∈ mm_GW := mm_in (List.mem_of_getElem? (i := 686) rfl) rfl
abbrev c_X7_account : ByteArray := prog_9_method_34_code
abbrev y_X7_account : MethodName := ⟨"RulePayrollModel", "account", "(I)J"⟩
abbrev cw_X7_account : Cond := .code y_X7_account c_X7_account 6 (some .long)
def w_X7_account : List Cond := cw_X7_account :: mm_GW
set_option maxRecDepth 100000 in
theorem kc_X7_account : cw_X7_account ∈ mm_GW := mm_in (List.mem_of_getElem? (i := 690) rfl) rfl
abbrev c_X7_paid : ByteArray := prog_9_method_35_code
abbrev y_X7_paid : MethodName := ⟨"RulePayrollModel", "paid", "(II)J"⟩
abbrev cw_X7_paid : Cond := .code y_X7_paid c_X7_paid 3 (some .long)
def w_X7_paid : List Cond := cw_X7_paid :: mm_GW
set_option maxRecDepth 100000 in
theorem kc_X7_paid : cw_X7_paid ∈ mm_GW := mm_in (List.mem_of_getElem? (i := 694) rfl) rfl
abbrev c_X7_count : ByteArray := prog_9_method_36_code
abbrev y_X7_count : MethodName := ⟨"RulePayrollModel", "count", "(I)I"⟩
abbrev cw_X7_count : Cond := .code y_X7_count c_X7_count 7 (some .int)
def w_X7_count : List Cond := cw_X7_count :: mm_GW
set_option maxRecDepth 100000 in
theorem kc_X7_count : cw_X7_count ∈ mm_GW := mm_in (List.mem_of_getElem? (i := 698) rfl) rfl
abbrev c_X0_init : ByteArray := prog_2_method_1_code
abbrev y_X0_init : MethodName := ⟨"RulePayroll$Nodes", "<init>", "()V"⟩
abbrev cw_X0_init : Cond := .code y_X0_init c_X0_init 1 none
def w_X0_init : List Cond := cw_X0_init :: mm_GW
set_option maxRecDepth 100000 in
theorem kc_X0_init : cw_X0_init ∈ mm_GW := mm_in (List.mem_of_getElem? (i := 60) rfl) rfl
abbrev c_X0_has : ByteArray := prog_2_method_2_code
abbrev y_X0_has : MethodName := ⟨"RulePayroll$Nodes", "has", "(I)Z"⟩
abbrev cw_X0_has : Cond := .code y_X0_has c_X0_has 2 (some .boolean)
def w_X0_has : List Cond := cw_X0_has :: mm_GW
set_option maxRecDepth 100000 in
theorem kc_X0_has : cw_X0_has ∈ mm_GW := mm_in (List.mem_of_getElem? (i := 212) rfl) rfl
abbrev c_X0_make : ByteArray := prog_2_method_3_code
abbrev y_X0_make : MethodName := ⟨"RulePayroll$Nodes", "make", "(IIII)I"⟩
abbrev cw_X0_make : Cond := .code y_X0_make c_X0_make 11 (some .int)
def w_X0_make : List Cond := cw_X0_make :: mm_GW
set_option maxRecDepth 100000 in
theorem kc_X0_make : cw_X0_make ∈ mm_GW := mm_in (List.mem_of_getElem? (i := 197) rfl) rfl
abbrev c_X0_takesNode : ByteArray := prog_2_method_4_code
abbrev y_X0_takesNode : MethodName := ⟨"RulePayroll$Nodes", "takesNode", "(II)Z"⟩
abbrev cw_X0_takesNode : Cond := .code y_X0_takesNode c_X0_takesNode 2 (some .boolean)
def w_X0_takesNode : List Cond := cw_X0_takesNode :: mm_GW
set_option maxRecDepth 100000 in
theorem kc_X0_takesNode : cw_X0_takesNode ∈ mm_GW := mm_in (List.mem_of_getElem? (i := 215) rfl) rfl
abbrev c_X0_operandsFit : ByteArray := prog_2_method_5_code
abbrev y_X0_operandsFit : MethodName := ⟨"RulePayroll$Nodes", "operandsFit", "(IIII)Z"⟩
abbrev cw_X0_operandsFit : Cond := .code y_X0_operandsFit c_X0_operandsFit 5 (some .boolean)
def w_X0_operandsFit : List Cond := cw_X0_operandsFit :: mm_GW
set_option maxRecDepth 100000 in
theorem kc_X0_operandsFit : cw_X0_operandsFit ∈ mm_GW := mm_in (List.mem_of_getElem? (i := 204) rfl) rfl
abbrev c_X0_firstFits : ByteArray := prog_2_method_6_code
abbrev y_X0_firstFits : MethodName := ⟨"RulePayroll$Nodes", "firstFits", "(II)Z"⟩
abbrev cw_X0_firstFits : Cond := .code y_X0_firstFits c_X0_firstFits 3 (some .boolean)
def w_X0_firstFits : List Cond := cw_X0_firstFits :: mm_GW
set_option maxRecDepth 100000 in
theorem kc_X0_firstFits : cw_X0_firstFits ∈ mm_GW := mm_in (List.mem_of_getElem? (i := 208) rfl) rfl
abbrev c_X0_levelOf : ByteArray := prog_2_method_7_code
abbrev y_X0_levelOf : MethodName := ⟨"RulePayroll$Nodes", "levelOf", "(I)I"⟩
abbrev cw_X0_levelOf : Cond := .code y_X0_levelOf c_X0_levelOf 2 (some .int)
def w_X0_levelOf : List Cond := cw_X0_levelOf :: mm_GW
set_option maxRecDepth 100000 in
theorem kc_X0_levelOf : cw_X0_levelOf ∈ mm_GW := mm_in (List.mem_of_getElem? (i := 221) rfl) rfl
abbrev c_X0_rankOf : ByteArray := prog_2_method_8_code
abbrev y_X0_rankOf : MethodName := ⟨"RulePayroll$Nodes", "rankOf", "(I)I"⟩
abbrev cw_X0_rankOf : Cond := .code y_X0_rankOf c_X0_rankOf 2 (some .int)
def w_X0_rankOf : List Cond := cw_X0_rankOf :: mm_GW
set_option maxRecDepth 100000 in
theorem kc_X0_rankOf : cw_X0_rankOf ∈ mm_GW := mm_in (List.mem_of_getElem? (i := 228) rfl) rfl
abbrev c_X0_putInOrder : ByteArray := prog_2_method_9_code
abbrev y_X0_putInOrder : MethodName := ⟨"RulePayroll$Nodes", "putInOrder", "(I)V"⟩
abbrev cw_X0_putInOrder : Cond := .code y_X0_putInOrder c_X0_putInOrder 3 none
def w_X0_putInOrder : List Cond := cw_X0_putInOrder :: mm_GW
set_option maxRecDepth 100000 in
theorem kc_X0_putInOrder : cw_X0_putInOrder ∈ mm_GW := mm_in (List.mem_of_getElem? (i := 232) rfl) rfl
abbrev c_X1_init : ByteArray := prog_3_method_1_code
abbrev y_X1_init : MethodName := ⟨"RulePayroll$Person", "<init>", "()V"⟩
abbrev cw_X1_init : Cond := .code y_X1_init c_X1_init 1 none
def w_X1_init : List Cond := cw_X1_init :: mm_GW
set_option maxRecDepth 100000 in
theorem kc_X1_init : cw_X1_init ∈ mm_GW := mm_in (List.mem_of_getElem? (i := 140) rfl) rfl
abbrev c_X1_paidSoFar : ByteArray := prog_3_method_2_code
abbrev y_X1_paidSoFar : MethodName := ⟨"RulePayroll$Person", "paidSoFar", "(I)J"⟩
abbrev cw_X1_paidSoFar : Cond := .code y_X1_paidSoFar c_X1_paidSoFar 2 (some .long)
def w_X1_paidSoFar : List Cond := cw_X1_paidSoFar :: mm_GW
set_option maxRecDepth 100000 in
theorem kc_X1_paidSoFar : cw_X1_paidSoFar ∈ mm_GW := mm_in (List.mem_of_getElem? (i := 301) rfl) rfl
abbrev c_X1_paidIsInt : ByteArray := prog_3_method_3_code
abbrev y_X1_paidIsInt : MethodName := ⟨"RulePayroll$Person", "paidIsInt", "()Z"⟩
abbrev cw_X1_paidIsInt : Cond := .code y_X1_paidIsInt c_X1_paidIsInt 1 (some .boolean)
def w_X1_paidIsInt : List Cond := cw_X1_paidIsInt :: mm_GW
set_option maxRecDepth 100000 in
theorem kc_X1_paidIsInt : cw_X1_paidIsInt ∈ mm_GW := mm_in (List.mem_of_getElem? (i := 274) rfl) rfl
abbrev c_X1_grow : ByteArray := prog_3_method_4_code
abbrev y_X1_grow : MethodName := ⟨"RulePayroll$Person", "grow", "(JJ)V"⟩
abbrev cw_X1_grow : Cond := .code y_X1_grow c_X1_grow 5 none
def w_X1_grow : List Cond := cw_X1_grow :: mm_GW
set_option maxRecDepth 100000 in
theorem kc_X1_grow : cw_X1_grow ∈ mm_GW := mm_in (List.mem_of_getElem? (i := 396) rfl) rfl
abbrev c_X1_reasonToHold : ByteArray := prog_3_method_5_code
abbrev y_X1_reasonToHold : MethodName := ⟨"RulePayroll$Person", "reasonToHold", "(JJJ)I"⟩
abbrev cw_X1_reasonToHold : Cond := .code y_X1_reasonToHold c_X1_reasonToHold 7 (some .int)
def w_X1_reasonToHold : List Cond := cw_X1_reasonToHold :: mm_GW
set_option maxRecDepth 100000 in
theorem kc_X1_reasonToHold : cw_X1_reasonToHold ∈ mm_GW := mm_in (List.mem_of_getElem? (i := 386) rfl) rfl
abbrev c_X1_reasonOf : ByteArray := prog_3_method_6_code
abbrev y_X1_reasonOf : MethodName := ⟨"RulePayroll$Person", "reasonOf", "(J)I"⟩
abbrev cw_X1_reasonOf : Cond := .code y_X1_reasonOf c_X1_reasonOf 2 (some .int)
def w_X1_reasonOf : List Cond := cw_X1_reasonOf :: mm_GW
set_option maxRecDepth 100000 in
theorem kc_X1_reasonOf : cw_X1_reasonOf ∈ mm_GW := mm_in (List.mem_of_getElem? (i := 389) rfl) rfl
abbrev c_X2_init : ByteArray := prog_4_method_1_code
abbrev y_X2_init : MethodName := ⟨"RulePayroll$Rules", "<init>", "()V"⟩
abbrev cw_X2_init : Cond := .code y_X2_init c_X2_init 2 none
def w_X2_init : List Cond := cw_X2_init :: mm_GW
set_option maxRecDepth 100000 in
theorem kc_X2_init : cw_X2_init ∈ mm_GW := mm_in (List.mem_of_getElem? (i := 54) rfl) rfl
abbrev c_X2_definitionBits : ByteArray := prog_4_method_2_code
abbrev y_X2_definitionBits : MethodName := ⟨"RulePayroll$Rules", "definitionBits", "()I"⟩
abbrev cw_X2_definitionBits : Cond := .code y_X2_definitionBits c_X2_definitionBits 3 (some .int)
def w_X2_definitionBits : List Cond := cw_X2_definitionBits :: mm_GW
set_option maxRecDepth 100000 in
theorem kc_X2_definitionBits : cw_X2_definitionBits ∈ mm_GW := mm_in (List.mem_of_getElem? (i := 478) rfl) rfl
abbrev c_X2_workOutFor : ByteArray := prog_4_method_3_code
abbrev y_X2_workOutFor : MethodName := ⟨"RulePayroll$Rules", "workOutFor", "(LRulePayroll$Person;)V"⟩
abbrev cw_X2_workOutFor : Cond := .code y_X2_workOutFor c_X2_workOutFor 4 none
def w_X2_workOutFor : List Cond := cw_X2_workOutFor :: mm_GW
set_option maxRecDepth 100000 in
theorem kc_X2_workOutFor : cw_X2_workOutFor ∈ mm_GW := mm_in (List.mem_of_getElem? (i := 284) rfl) rfl
abbrev c_X2_workedDefinition : ByteArray := prog_4_method_4_code
abbrev y_X2_workedDefinition : MethodName := ⟨"RulePayroll$Rules", "workedDefinition", "(I)J"⟩
abbrev cw_X2_workedDefinition : Cond := .code y_X2_workedDefinition c_X2_workedDefinition 2 (some .long)
def w_X2_workedDefinition : List Cond := cw_X2_workedDefinition :: mm_GW
set_option maxRecDepth 100000 in
theorem kc_X2_workedDefinition : cw_X2_workedDefinition ∈ mm_GW := mm_in (List.mem_of_getElem? (i := 292) rfl) rfl
abbrev c_X2_workedOrEmpty : ByteArray := prog_4_method_5_code
abbrev y_X2_workedOrEmpty : MethodName := ⟨"RulePayroll$Rules", "workedOrEmpty", "(I)J"⟩
abbrev cw_X2_workedOrEmpty : Cond := .code y_X2_workedOrEmpty c_X2_workedOrEmpty 2 (some .long)
def w_X2_workedOrEmpty : List Cond := cw_X2_workedOrEmpty :: mm_GW
set_option maxRecDepth 100000 in
theorem kc_X2_workedOrEmpty : cw_X2_workedOrEmpty ∈ mm_GW := mm_in (List.mem_of_getElem? (i := 296) rfl) rfl
abbrev c_X2_workedOut : ByteArray := prog_4_method_6_code
abbrev y_X2_workedOut : MethodName := ⟨"RulePayroll$Rules", "workedOut", "(ILRulePayroll$Person;)J"⟩
abbrev cw_X2_workedOut : Cond := .code y_X2_workedOut c_X2_workedOut 7 (some .long)
def w_X2_workedOut : List Cond := cw_X2_workedOut :: mm_GW
set_option maxRecDepth 100000 in
theorem kc_X2_workedOut : cw_X2_workedOut ∈ mm_GW := mm_in (List.mem_of_getElem? (i := 288) rfl) rfl
abbrev c_X3_init : ByteArray := prog_5_method_1_code
abbrev y_X3_init : MethodName := ⟨"RulePayroll$Runs", "<init>", "()V"⟩
abbrev cw_X3_init : Cond := .code y_X3_init c_X3_init 1 none
def w_X3_init : List Cond := cw_X3_init :: mm_GW
set_option maxRecDepth 100000 in
theorem kc_X3_init : cw_X3_init ∈ mm_GW := mm_in (List.mem_of_getElem? (i := 161) rfl) rfl
abbrev c_X3_has : ByteArray := prog_5_method_2_code
abbrev y_X3_has : MethodName := ⟨"RulePayroll$Runs", "has", "(I)Z"⟩
abbrev cw_X3_has : Cond := .code y_X3_has c_X3_has 2 (some .boolean)
def w_X3_has : List Cond := cw_X3_has :: mm_GW
set_option maxRecDepth 100000 in
theorem kc_X3_has : cw_X3_has ∈ mm_GW := mm_in (List.mem_of_getElem? (i := 408) rfl) rfl
abbrev c_X3_stands : ByteArray := prog_5_method_3_code
abbrev y_X3_stands : MethodName := ⟨"RulePayroll$Runs", "stands", "(I)Z"⟩
abbrev cw_X3_stands : Cond := .code y_X3_stands c_X3_stands 2 (some .boolean)
def w_X3_stands : List Cond := cw_X3_stands :: mm_GW
set_option maxRecDepth 100000 in
theorem kc_X3_stands : cw_X3_stands ∈ mm_GW := mm_in (List.mem_of_getElem? (i := 404) rfl) rfl
abbrev c_X3_amountOf : ByteArray := prog_5_method_4_code
abbrev y_X3_amountOf : MethodName := ⟨"RulePayroll$Runs", "amountOf", "(III)J"⟩
abbrev cw_X3_amountOf : Cond := .code y_X3_amountOf c_X3_amountOf 4 (some .long)
def w_X3_amountOf : List Cond := cw_X3_amountOf :: mm_GW
set_option maxRecDepth 100000 in
theorem kc_X3_amountOf : cw_X3_amountOf ∈ mm_GW := mm_in (List.mem_of_getElem? (i := 421) rfl) rfl
abbrev c_X3_hasSlip : ByteArray := prog_5_method_5_code
abbrev y_X3_hasSlip : MethodName := ⟨"RulePayroll$Runs", "hasSlip", "(II)Z"⟩
abbrev cw_X3_hasSlip : Cond := .code y_X3_hasSlip c_X3_hasSlip 3 (some .boolean)
def w_X3_hasSlip : List Cond := cw_X3_hasSlip :: mm_GW
set_option maxRecDepth 100000 in
theorem kc_X3_hasSlip : cw_X3_hasSlip ∈ mm_GW := mm_in (List.mem_of_getElem? (i := 417) rfl) rfl
abbrev c_X3_placeOf : ByteArray := prog_5_method_6_code
abbrev y_X3_placeOf : MethodName := ⟨"RulePayroll$Runs", "placeOf", "(II)I"⟩
abbrev cw_X3_placeOf : Cond := .code y_X3_placeOf c_X3_placeOf 2 (some .int)
def w_X3_placeOf : List Cond := cw_X3_placeOf :: mm_GW
set_option maxRecDepth 100000 in
theorem kc_X3_placeOf : cw_X3_placeOf ∈ mm_GW := mm_in (List.mem_of_getElem? (i := 372) rfl) rfl
abbrev c_X3_wipe : ByteArray := prog_5_method_7_code
abbrev y_X3_wipe : MethodName := ⟨"RulePayroll$Runs", "wipe", "(II)V"⟩
abbrev cw_X3_wipe : Cond := .code y_X3_wipe c_X3_wipe 3 none
def w_X3_wipe : List Cond := cw_X3_wipe :: mm_GW
set_option maxRecDepth 100000 in
theorem kc_X3_wipe : cw_X3_wipe ∈ mm_GW := mm_in (List.mem_of_getElem? (i := 364) rfl) rfl
abbrev c_X3_writeSlip : ByteArray := prog_5_method_8_code
abbrev y_X3_writeSlip : MethodName := ⟨"RulePayroll$Runs", "writeSlip", "(IIJJJ)V"⟩
abbrev cw_X3_writeSlip : Cond := .code y_X3_writeSlip c_X3_writeSlip 10 none
def w_X3_writeSlip : List Cond := cw_X3_writeSlip :: mm_GW
set_option maxRecDepth 100000 in
theorem kc_X3_writeSlip : cw_X3_writeSlip ∈ mm_GW := mm_in (List.mem_of_getElem? (i := 369) rfl) rfl
abbrev c_X3_hold : ByteArray := prog_5_method_9_code
abbrev y_X3_hold : MethodName := ⟨"RulePayroll$Runs", "hold", "(III)V"⟩
abbrev cw_X3_hold : Cond := .code y_X3_hold c_X3_hold 4 none
def w_X3_hold : List Cond := cw_X3_hold :: mm_GW
set_option maxRecDepth 100000 in
theorem kc_X3_hold : cw_X3_hold ∈ mm_GW := mm_in (List.mem_of_getElem? (i := 376) rfl) rfl
abbrev c_X3_slipsOf : ByteArray := prog_5_method_10_code
abbrev y_X3_slipsOf : MethodName := ⟨"RulePayroll$Runs", "slipsOf", "(I)I"⟩
abbrev cw_X3_slipsOf : Cond := .code y_X3_slipsOf c_X3_slipsOf 4 (some .int)
def w_X3_slipsOf : List Cond := cw_X3_slipsOf :: mm_GW
set_option maxRecDepth 100000 in
theorem kc_X3_slipsOf : cw_X3_slipsOf ∈ mm_GW := mm_in (List.mem_of_getElem? (i := 429) rfl) rfl
abbrev c_X3_slipsStanding : ByteArray := prog_5_method_11_code
abbrev y_X3_slipsStanding : MethodName := ⟨"RulePayroll$Runs", "slipsStanding", "()I"⟩
abbrev cw_X3_slipsStanding : Cond := .code y_X3_slipsStanding c_X3_slipsStanding 3 (some .int)
def w_X3_slipsStanding : List Cond := cw_X3_slipsStanding :: mm_GW
set_option maxRecDepth 100000 in
theorem kc_X3_slipsStanding : cw_X3_slipsStanding ∈ mm_GW := mm_in (List.mem_of_getElem? (i := 469) rfl) rfl
abbrev c_X3_howManyTakenBack : ByteArray := prog_5_method_12_code
abbrev y_X3_howManyTakenBack : MethodName := ⟨"RulePayroll$Runs", "howManyTakenBack", "()I"⟩
abbrev cw_X3_howManyTakenBack : Cond := .code y_X3_howManyTakenBack c_X3_howManyTakenBack 3 (some .int)
def w_X3_howManyTakenBack : List Cond := cw_X3_howManyTakenBack :: mm_GW
set_option maxRecDepth 100000 in
theorem kc_X3_howManyTakenBack : cw_X3_howManyTakenBack ∈ mm_GW := mm_in (List.mem_of_getElem? (i := 465) rfl) rfl
abbrev c_X3_totalOf : ByteArray := prog_5_method_13_code
abbrev y_X3_totalOf : MethodName := ⟨"RulePayroll$Runs", "totalOf", "(I)J"⟩
abbrev cw_X3_totalOf : Cond := .code y_X3_totalOf c_X3_totalOf 5 (some .long)
def w_X3_totalOf : List Cond := cw_X3_totalOf :: mm_GW
set_option maxRecDepth 100000 in
theorem kc_X3_totalOf : cw_X3_totalOf ∈ mm_GW := mm_in (List.mem_of_getElem? (i := 447) rfl) rfl
abbrev c_X3_totalOfRun : ByteArray := prog_5_method_14_code
abbrev y_X3_totalOfRun : MethodName := ⟨"RulePayroll$Runs", "totalOfRun", "(II)J"⟩
abbrev cw_X3_totalOfRun : Cond := .code y_X3_totalOfRun c_X3_totalOfRun 6 (some .long)
def w_X3_totalOfRun : List Cond := cw_X3_totalOfRun :: mm_GW
set_option maxRecDepth 100000 in
theorem kc_X3_totalOfRun : cw_X3_totalOfRun ∈ mm_GW := mm_in (List.mem_of_getElem? (i := 451) rfl) rfl
abbrev c_X4_init : ByteArray := prog_6_method_1_code
abbrev y_X4_init : MethodName := ⟨"RulePayroll$Table", "<init>", "()V"⟩
abbrev cw_X4_init : Cond := .code y_X4_init c_X4_init 1 none
def w_X4_init : List Cond := cw_X4_init :: mm_GW
set_option maxRecDepth 100000 in
theorem kc_X4_init : cw_X4_init ∈ mm_GW := mm_in (List.mem_of_getElem? (i := 104) rfl) rfl
abbrev c_X4_addStep : ByteArray := prog_6_method_2_code
abbrev y_X4_addStep : MethodName := ⟨"RulePayroll$Table", "addStep", "(II)I"⟩
abbrev cw_X4_addStep : Cond := .code y_X4_addStep c_X4_addStep 4 (some .int)
def w_X4_addStep : List Cond := cw_X4_addStep :: mm_GW
set_option maxRecDepth 100000 in
theorem kc_X4_addStep : cw_X4_addStep ∈ mm_GW := mm_in (List.mem_of_getElem? (i := 250) rfl) rfl
abbrev c_X4_loseSteps : ByteArray := prog_6_method_3_code
abbrev y_X4_loseSteps : MethodName := ⟨"RulePayroll$Table", "loseSteps", "()I"⟩
abbrev cw_X4_loseSteps : Cond := .code y_X4_loseSteps c_X4_loseSteps 2 (some .int)
def w_X4_loseSteps : List Cond := cw_X4_loseSteps :: mm_GW
set_option maxRecDepth 100000 in
theorem kc_X4_loseSteps : cw_X4_loseSteps ∈ mm_GW := mm_in (List.mem_of_getElem? (i := 258) rfl) rfl
abbrev c_X4_scaled : ByteArray := prog_6_method_4_code
abbrev y_X4_scaled : MethodName := ⟨"RulePayroll$Table", "scaled", "(J)J"⟩
abbrev cw_X4_scaled : Cond := .code y_X4_scaled c_X4_scaled 10 (some .long)
def w_X4_scaled : List Cond := cw_X4_scaled :: mm_GW
set_option maxRecDepth 100000 in
theorem kc_X4_scaled : cw_X4_scaled ∈ mm_GW := mm_in (List.mem_of_getElem? (i := 342) rfl) rfl
abbrev c_X5_isInt : ByteArray := prog_7_method_2_code
abbrev y_X5_isInt : MethodName := ⟨"RulePayroll$Values", "isInt", "(J)Z"⟩
abbrev cw_X5_isInt : Cond := .code y_X5_isInt c_X5_isInt 2 (some .boolean)
def w_X5_isInt : List Cond := cw_X5_isInt :: mm_GW
set_option maxRecDepth 100000 in
theorem kc_X5_isInt : cw_X5_isInt ∈ mm_GW := mm_in (List.mem_of_getElem? (i := 277) rfl) rfl
abbrev c_X5_faultOf : ByteArray := prog_7_method_3_code
abbrev y_X5_faultOf : MethodName := ⟨"RulePayroll$Values", "faultOf", "(J)J"⟩
abbrev cw_X5_faultOf : Cond := .code y_X5_faultOf c_X5_faultOf 2 (some .long)
def w_X5_faultOf : List Cond := cw_X5_faultOf :: mm_GW
set_option maxRecDepth 100000 in
theorem kc_X5_faultOf : cw_X5_faultOf ∈ mm_GW := mm_in (List.mem_of_getElem? (i := 308) rfl) rfl
abbrev c_X5_truthOf : ByteArray := prog_7_method_4_code
abbrev y_X5_truthOf : MethodName := ⟨"RulePayroll$Values", "truthOf", "(J)J"⟩
abbrev cw_X5_truthOf : Cond := .code y_X5_truthOf c_X5_truthOf 2 (some .long)
def w_X5_truthOf : List Cond := cw_X5_truthOf :: mm_GW
set_option maxRecDepth 100000 in
theorem kc_X5_truthOf : cw_X5_truthOf ∈ mm_GW := mm_in (List.mem_of_getElem? (i := 325) rfl) rfl
abbrev c_X5_not : ByteArray := prog_7_method_5_code
abbrev y_X5_not : MethodName := ⟨"RulePayroll$Values", "not", "(J)J"⟩
abbrev cw_X5_not : Cond := .code y_X5_not c_X5_not 2 (some .long)
def w_X5_not : List Cond := cw_X5_not :: mm_GW
set_option maxRecDepth 100000 in
theorem kc_X5_not : cw_X5_not ∈ mm_GW := mm_in (List.mem_of_getElem? (i := 319) rfl) rfl
abbrev c_X5_both : ByteArray := prog_7_method_6_code
abbrev y_X5_both : MethodName := ⟨"RulePayroll$Values", "both", "(JJ)J"⟩
abbrev cw_X5_both : Cond := .code y_X5_both c_X5_both 4 (some .long)
def w_X5_both : List Cond := cw_X5_both :: mm_GW
set_option maxRecDepth 100000 in
theorem kc_X5_both : cw_X5_both ∈ mm_GW := mm_in (List.mem_of_getElem? (i := 322) rfl) rfl
abbrev c_X5_any : ByteArray := prog_7_method_7_code
abbrev y_X5_any : MethodName := ⟨"RulePayroll$Values", "any", "(JJ)J"⟩
abbrev cw_X5_any : Cond := .code y_X5_any c_X5_any 4 (some .long)
def w_X5_any : List Cond := cw_X5_any :: mm_GW
set_option maxRecDepth 100000 in
theorem kc_X5_any : cw_X5_any ∈ mm_GW := mm_in (List.mem_of_getElem? (i := 328) rfl) rfl
abbrev c_X5_choice : ByteArray := prog_7_method_8_code
abbrev y_X5_choice : MethodName := ⟨"RulePayroll$Values", "choice", "(JJJ)J"⟩
abbrev cw_X5_choice : Cond := .code y_X5_choice c_X5_choice 6 (some .long)
def w_X5_choice : List Cond := cw_X5_choice :: mm_GW
set_option maxRecDepth 100000 in
theorem kc_X5_choice : cw_X5_choice ∈ mm_GW := mm_in (List.mem_of_getElem? (i := 331) rfl) rfl
abbrev c_X5_also : ByteArray := prog_7_method_9_code
abbrev y_X5_also : MethodName := ⟨"RulePayroll$Values", "also", "(JJ)J"⟩
abbrev cw_X5_also : Cond := .code y_X5_also c_X5_also 4 (some .long)
def w_X5_also : List Cond := cw_X5_also :: mm_GW
set_option maxRecDepth 100000 in
theorem kc_X5_also : cw_X5_also ∈ mm_GW := mm_in (List.mem_of_getElem? (i := 337) rfl) rfl
abbrev c_X5_byDefault : ByteArray := prog_7_method_10_code
abbrev y_X5_byDefault : MethodName := ⟨"RulePayroll$Values", "byDefault", "(JJJ)J"⟩
abbrev cw_X5_byDefault : Cond := .code y_X5_byDefault c_X5_byDefault 6 (some .long)
def w_X5_byDefault : List Cond := cw_X5_byDefault :: mm_GW
set_option maxRecDepth 100000 in
theorem kc_X5_byDefault : cw_X5_byDefault ∈ mm_GW := mm_in (List.mem_of_getElem? (i := 334) rfl) rfl
abbrev c_X5_ofTwo : ByteArray := prog_7_method_11_code
abbrev y_X5_ofTwo : MethodName := ⟨"RulePayroll$Values", "ofTwo", "(IJJ)J"⟩
abbrev cw_X5_ofTwo : Cond := .code y_X5_ofTwo c_X5_ofTwo 7 (some .long)
def w_X5_ofTwo : List Cond := cw_X5_ofTwo :: mm_GW
set_option maxRecDepth 100000 in
theorem kc_X5_ofTwo : cw_X5_ofTwo ∈ mm_GW := mm_in (List.mem_of_getElem? (i := 349) rfl) rfl
abbrev c_X5_ofInts : ByteArray := prog_7_method_12_code
abbrev y_X5_ofInts : MethodName := ⟨"RulePayroll$Values", "ofInts", "(IJJ)J"⟩
abbrev cw_X5_ofInts : Cond := .code y_X5_ofInts c_X5_ofInts 5 (some .long)
def w_X5_ofInts : List Cond := cw_X5_ofInts :: mm_GW
set_option maxRecDepth 100000 in
theorem kc_X5_ofInts : cw_X5_ofInts ∈ mm_GW := mm_in (List.mem_of_getElem? (i := 352) rfl) rfl
abbrev c_X5_share : ByteArray := prog_7_method_13_code
abbrev y_X5_share : MethodName := ⟨"RulePayroll$Values", "share", "(JJJ)J"⟩
abbrev cw_X5_share : Cond := .code y_X5_share c_X5_share 8 (some .long)
def w_X5_share : List Cond := cw_X5_share :: mm_GW
set_option maxRecDepth 100000 in
theorem kc_X5_share : cw_X5_share ∈ mm_GW := mm_in (List.mem_of_getElem? (i := 304) rfl) rfl
abbrev c_X5_rounded : ByteArray := prog_7_method_14_code
abbrev y_X5_rounded : MethodName := ⟨"RulePayroll$Values", "rounded", "(JJ)J"⟩
abbrev cw_X5_rounded : Cond := .code y_X5_rounded c_X5_rounded 10 (some .long)
def w_X5_rounded : List Cond := cw_X5_rounded :: mm_GW
set_option maxRecDepth 100000 in
theorem kc_X5_rounded : cw_X5_rounded ∈ mm_GW := mm_in (List.mem_of_getElem? (i := 314) rfl) rfl
abbrev c_J7_fill : ByteArray := prog_11_method_103_code
abbrev y_J7_fill : MethodName := ⟨"java/util/Arrays", "fill", "([II)V"⟩
abbrev cw_J7_fill : Cond := .code y_J7_fill c_J7_fill 4 none
def w_J7_fill : List Cond := cw_J7_fill :: mm_GW
set_option maxRecDepth 100000 in
theorem kc_J7_fill : cw_J7_fill ∈ mm_GW := mm_in (List.mem_of_getElem? (i := 100) rfl) rfl
set_option maxRecDepth 100000 in
theorem kc_max : (Cond.code Lib.Math.max.name Lib.Math.max.code 2 (some .int)) ∈ mm_GW := mm_in (List.mem_of_getElem? (i := 224) rfl) rfl
end
section
theorem k_0 : (.fieldLink "RulePayroll$Nodes" 33 "RulePayroll$Nodes" "made" "I" : Cond) ∈ mm_GW := mm_in (List.mem_of_getElem? (i := 75) (by decide +kernel)) rfl
theorem k_1 : (.initialized "RulePayroll" : Cond) ∈ mm_GW := mm_in (List.mem_of_getElem? (i := 32) (by decide +kernel)) rfl
theorem k_2 : (.static ⟨"RulePayroll", "within", "(II)Z"⟩ : Cond) ∈ mm_GW := mm_in (List.mem_of_getElem? (i := 199) (by decide +kernel)) rfl
theorem k_3 : (.methodLink "RulePayroll$Nodes" 71 ⟨"RulePayroll$Nodes", "has", "(I)Z"⟩ : Cond) ∈ mm_GW := mm_in (List.mem_of_getElem? (i := 209) (by decide +kernel)) rfl
theorem k_4 : (.instanceMethod ⟨"RulePayroll$Nodes", "has", "(I)Z"⟩ : Cond) ∈ mm_GW := mm_in (List.mem_of_getElem? (i := 210) (by decide +kernel)) rfl
theorem k_5 : (.selects "RulePayroll$Nodes" ⟨"RulePayroll$Nodes", "has", "(I)Z"⟩ ⟨"RulePayroll$Nodes", "has", "(I)Z"⟩ : Cond) ∈ mm_GW := mm_in (List.mem_of_getElem? (i := 211) (by decide +kernel)) rfl
theorem k_6 : (.initialized "RulePayroll$Nodes" : Cond) ∈ mm_GW := mm_in (List.mem_of_getElem? (i := 34) (by decide +kernel)) rfl
theorem k_7 : (.methodLink "RulePayroll$Nodes" 45 ⟨"RulePayroll$Nodes", "takesNode", "(II)Z"⟩ : Cond) ∈ mm_GW := mm_in (List.mem_of_getElem? (i := 213) (by decide +kernel)) rfl
theorem k_8 : (.static ⟨"RulePayroll$Nodes", "takesNode", "(II)Z"⟩ : Cond) ∈ mm_GW := mm_in (List.mem_of_getElem? (i := 214) (by decide +kernel)) rfl
theorem k_9 : (.methodLink "RulePayroll$Nodes" 68 ⟨"RulePayroll$Nodes", "firstFits", "(II)Z"⟩ : Cond) ∈ mm_GW := mm_in (List.mem_of_getElem? (i := 205) (by decide +kernel)) rfl
theorem k_10 : (.instanceMethod ⟨"RulePayroll$Nodes", "firstFits", "(II)Z"⟩ : Cond) ∈ mm_GW := mm_in (List.mem_of_getElem? (i := 207) (by decide +kernel)) rfl
theorem k_11 : (.selects "RulePayroll$Nodes" ⟨"RulePayroll$Nodes", "firstFits", "(II)Z"⟩ ⟨"RulePayroll$Nodes", "firstFits", "(II)Z"⟩ : Cond) ∈ mm_GW := mm_in (List.mem_of_getElem? (i := 1) (by decide +kernel)) rfl
theorem k_12 : (.fieldLink "RulePayroll$Nodes" 24 "RulePayroll$Nodes" "levels" "[I" : Cond) ∈ mm_GW := mm_in (List.mem_of_getElem? (i := 70) (by decide +kernel)) rfl
theorem k_13 : (.fieldLink "RulePayroll$Nodes" 27 "RulePayroll$Nodes" "ranks" "[I" : Cond) ∈ mm_GW := mm_in (List.mem_of_getElem? (i := 71) (by decide +kernel)) rfl
theorem k_14 : (.fieldLink "RulePayroll$Nodes" 30 "RulePayroll$Nodes" "order" "[I" : Cond) ∈ mm_GW := mm_in (List.mem_of_getElem? (i := 73) (by decide +kernel)) rfl
theorem k_15 : (.methodLink "RulePayroll$Nodes" 41 ⟨"RulePayroll$Nodes", "operandsFit", "(IIII)Z"⟩ : Cond) ∈ mm_GW := mm_in (List.mem_of_getElem? (i := 201) (by decide +kernel)) rfl
theorem k_16 : (.instanceMethod ⟨"RulePayroll$Nodes", "operandsFit", "(IIII)Z"⟩ : Cond) ∈ mm_GW := mm_in (List.mem_of_getElem? (i := 203) (by decide +kernel)) rfl
theorem k_17 : (.selects "RulePayroll$Nodes" ⟨"RulePayroll$Nodes", "operandsFit", "(IIII)Z"⟩ ⟨"RulePayroll$Nodes", "operandsFit", "(IIII)Z"⟩ : Cond) ∈ mm_GW := mm_in (List.mem_of_getElem? (i := 0) (by decide +kernel)) rfl
theorem k_18 : (.methodLink "RulePayroll$Nodes" 52 ⟨"java/lang/Math", "max", "(II)I"⟩ : Cond) ∈ mm_GW := mm_in (List.mem_of_getElem? (i := 222) (by decide +kernel)) rfl
theorem k_19 : (.static ⟨"java/lang/Math", "max", "(II)I"⟩ : Cond) ∈ mm_GW := mm_in (List.mem_of_getElem? (i := 223) (by decide +kernel)) rfl
theorem k_20 : (.initialized "java/lang/Math" : Cond) ∈ mm_GW := mm_in (List.mem_of_getElem? (i := 40) (by decide +kernel)) rfl
theorem k_21 : (.fieldLink "RulePayroll$Nodes" 9 "RulePayroll$Nodes" "kinds" "[I" : Cond) ∈ mm_GW := mm_in (List.mem_of_getElem? (i := 62) (by decide +kernel)) rfl
theorem k_22 : (.fieldLink "RulePayroll$Nodes" 15 "RulePayroll$Nodes" "as" "[I" : Cond) ∈ mm_GW := mm_in (List.mem_of_getElem? (i := 64) (by decide +kernel)) rfl
theorem k_23 : (.fieldLink "RulePayroll$Nodes" 18 "RulePayroll$Nodes" "bs" "[I" : Cond) ∈ mm_GW := mm_in (List.mem_of_getElem? (i := 66) (by decide +kernel)) rfl
theorem k_24 : (.fieldLink "RulePayroll$Nodes" 21 "RulePayroll$Nodes" "cs" "[I" : Cond) ∈ mm_GW := mm_in (List.mem_of_getElem? (i := 68) (by decide +kernel)) rfl
theorem k_25 : (.methodLink "RulePayroll$Nodes" 48 ⟨"RulePayroll$Nodes", "levelOf", "(I)I"⟩ : Cond) ∈ mm_GW := mm_in (List.mem_of_getElem? (i := 218) (by decide +kernel)) rfl
theorem k_26 : (.instanceMethod ⟨"RulePayroll$Nodes", "levelOf", "(I)I"⟩ : Cond) ∈ mm_GW := mm_in (List.mem_of_getElem? (i := 220) (by decide +kernel)) rfl
theorem k_27 : (.selects "RulePayroll$Nodes" ⟨"RulePayroll$Nodes", "levelOf", "(I)I"⟩ ⟨"RulePayroll$Nodes", "levelOf", "(I)I"⟩ : Cond) ∈ mm_GW := mm_in (List.mem_of_getElem? (i := 2) (by decide +kernel)) rfl
theorem k_28 : (.methodLink "RulePayroll$Nodes" 61 ⟨"RulePayroll$Nodes", "putInOrder", "(I)V"⟩ : Cond) ∈ mm_GW := mm_in (List.mem_of_getElem? (i := 229) (by decide +kernel)) rfl
theorem k_29 : (.instanceMethod ⟨"RulePayroll$Nodes", "putInOrder", "(I)V"⟩ : Cond) ∈ mm_GW := mm_in (List.mem_of_getElem? (i := 231) (by decide +kernel)) rfl
theorem k_30 : (.selects "RulePayroll$Nodes" ⟨"RulePayroll$Nodes", "putInOrder", "(I)V"⟩ ⟨"RulePayroll$Nodes", "putInOrder", "(I)V"⟩ : Cond) ∈ mm_GW := mm_in (List.mem_of_getElem? (i := 4) (by decide +kernel)) rfl
theorem k_31 : (.methodLink "RulePayroll$Nodes" 58 ⟨"RulePayroll$Nodes", "rankOf", "(I)I"⟩ : Cond) ∈ mm_GW := mm_in (List.mem_of_getElem? (i := 225) (by decide +kernel)) rfl
theorem k_32 : (.instanceMethod ⟨"RulePayroll$Nodes", "rankOf", "(I)I"⟩ : Cond) ∈ mm_GW := mm_in (List.mem_of_getElem? (i := 227) (by decide +kernel)) rfl
theorem k_33 : (.selects "RulePayroll$Nodes" ⟨"RulePayroll$Nodes", "rankOf", "(I)I"⟩ ⟨"RulePayroll$Nodes", "rankOf", "(I)I"⟩ : Cond) ∈ mm_GW := mm_in (List.mem_of_getElem? (i := 3) (by decide +kernel)) rfl
theorem k_34 : (.fieldLink "RulePayroll" 12 "RulePayroll" "rules" "LRulePayroll$Rules;" : Cond) ∈ mm_GW := mm_in (List.mem_of_getElem? (i := 180) (by decide +kernel)) rfl
theorem k_35 : (.fieldLink "RulePayroll" 30 "RulePayroll$Rules" "nodes" "LRulePayroll$Nodes;" : Cond) ∈ mm_GW := mm_in (List.mem_of_getElem? (i := 119) (by decide +kernel)) rfl
theorem k_36 : (.methodLink "RulePayroll" 34 ⟨"RulePayroll$Nodes", "make", "(IIII)I"⟩ : Cond) ∈ mm_GW := mm_in (List.mem_of_getElem? (i := 194) (by decide +kernel)) rfl
theorem k_37 : (.instanceMethod ⟨"RulePayroll$Nodes", "make", "(IIII)I"⟩ : Cond) ∈ mm_GW := mm_in (List.mem_of_getElem? (i := 195) (by decide +kernel)) rfl
theorem k_38 : (.selects "RulePayroll$Nodes" ⟨"RulePayroll$Nodes", "make", "(IIII)I"⟩ ⟨"RulePayroll$Nodes", "make", "(IIII)I"⟩ : Cond) ∈ mm_GW := mm_in (List.mem_of_getElem? (i := 196) (by decide +kernel)) rfl
theorem k_39 : (.fieldLink "RulePayroll" 48 "RulePayroll$Nodes" "ranks" "[I" : Cond) ∈ mm_GW := mm_in (List.mem_of_getElem? (i := 72) (by decide +kernel)) rfl
theorem k_40 : (.fieldLink "RulePayroll" 52 "RulePayroll$Rules" "definitions" "[I" : Cond) ∈ mm_GW := mm_in (List.mem_of_getElem? (i := 121) (by decide +kernel)) rfl
theorem k_41 : (.methodLink "RulePayroll" 44 ⟨"RulePayroll$Nodes", "has", "(I)Z"⟩ : Cond) ∈ mm_GW := mm_in (List.mem_of_getElem? (i := 238) (by decide +kernel)) rfl
theorem k_42 : (.methodLink "RulePayroll" 40 ⟨"RulePayroll", "within", "(II)Z"⟩ : Cond) ∈ mm_GW := mm_in (List.mem_of_getElem? (i := 237) (by decide +kernel)) rfl
theorem k_43 : (.fieldLink "RulePayroll$Table" 18 "RulePayroll$Table" "steps" "I" : Cond) ∈ mm_GW := mm_in (List.mem_of_getElem? (i := 108) (by decide +kernel)) rfl
theorem k_44 : (.fieldLink "RulePayroll$Table" 9 "RulePayroll$Table" "limits" "[I" : Cond) ∈ mm_GW := mm_in (List.mem_of_getElem? (i := 106) (by decide +kernel)) rfl
theorem k_45 : (.fieldLink "RulePayroll$Table" 15 "RulePayroll$Table" "rates" "[I" : Cond) ∈ mm_GW := mm_in (List.mem_of_getElem? (i := 107) (by decide +kernel)) rfl
theorem k_46 : (.fieldLink "RulePayroll" 55 "RulePayroll$Rules" "tables" "[LRulePayroll$Table;" : Cond) ∈ mm_GW := mm_in (List.mem_of_getElem? (i := 123) (by decide +kernel)) rfl
theorem k_47 : (.methodLink "RulePayroll" 59 ⟨"RulePayroll$Table", "addStep", "(II)I"⟩ : Cond) ∈ mm_GW := mm_in (List.mem_of_getElem? (i := 247) (by decide +kernel)) rfl
theorem k_48 : (.instanceMethod ⟨"RulePayroll$Table", "addStep", "(II)I"⟩ : Cond) ∈ mm_GW := mm_in (List.mem_of_getElem? (i := 248) (by decide +kernel)) rfl
theorem k_49 : (.selects "RulePayroll$Table" ⟨"RulePayroll$Table", "addStep", "(II)I"⟩ ⟨"RulePayroll$Table", "addStep", "(II)I"⟩ : Cond) ∈ mm_GW := mm_in (List.mem_of_getElem? (i := 249) (by decide +kernel)) rfl
theorem k_50 : (.initialized "RulePayroll$Table" : Cond) ∈ mm_GW := mm_in (List.mem_of_getElem? (i := 36) (by decide +kernel)) rfl
theorem k_51 : (.methodLink "RulePayroll" 65 ⟨"RulePayroll$Table", "loseSteps", "()I"⟩ : Cond) ∈ mm_GW := mm_in (List.mem_of_getElem? (i := 255) (by decide +kernel)) rfl
theorem k_52 : (.instanceMethod ⟨"RulePayroll$Table", "loseSteps", "()I"⟩ : Cond) ∈ mm_GW := mm_in (List.mem_of_getElem? (i := 256) (by decide +kernel)) rfl
theorem k_53 : (.selects "RulePayroll$Table" ⟨"RulePayroll$Table", "loseSteps", "()I"⟩ ⟨"RulePayroll$Table", "loseSteps", "()I"⟩ : Cond) ∈ mm_GW := mm_in (List.mem_of_getElem? (i := 257) (by decide +kernel)) rfl
theorem k_54 : (.fieldLink "RulePayroll" 18 "RulePayroll" "persons" "[LRulePayroll$Person;" : Cond) ∈ mm_GW := mm_in (List.mem_of_getElem? (i := 181) (by decide +kernel)) rfl
theorem k_55 : (.fieldLink "RulePayroll" 69 "RulePayroll$Person" "inputs" "[I" : Cond) ∈ mm_GW := mm_in (List.mem_of_getElem? (i := 144) (by decide +kernel)) rfl
theorem k_56 : (.fieldLink "RulePayroll" 72 "RulePayroll$Person" "active" "Z" : Cond) ∈ mm_GW := mm_in (List.mem_of_getElem? (i := 147) (by decide +kernel)) rfl
theorem k_57 : (.constantLong "RulePayroll$Values" 11 (-2147483648) : Cond) ∈ mm_GW := mm_in (List.mem_of_getElem? (i := 278) (by decide +kernel)) rfl
theorem k_58 : (.constantLong "RulePayroll$Values" 13 2147483647 : Cond) ∈ mm_GW := mm_in (List.mem_of_getElem? (i := 279) (by decide +kernel)) rfl
theorem k_59 : (.fieldLink "RulePayroll$Person" 15 "RulePayroll$Person" "grossPaid" "J" : Cond) ∈ mm_GW := mm_in (List.mem_of_getElem? (i := 145) (by decide +kernel)) rfl
theorem k_60 : (.fieldLink "RulePayroll$Person" 19 "RulePayroll$Person" "taxPaid" "J" : Cond) ∈ mm_GW := mm_in (List.mem_of_getElem? (i := 146) (by decide +kernel)) rfl
theorem k_61 : (.methodLink "RulePayroll$Person" 22 ⟨"RulePayroll$Values", "isInt", "(J)Z"⟩ : Cond) ∈ mm_GW := mm_in (List.mem_of_getElem? (i := 275) (by decide +kernel)) rfl
theorem k_62 : (.static ⟨"RulePayroll$Values", "isInt", "(J)Z"⟩ : Cond) ∈ mm_GW := mm_in (List.mem_of_getElem? (i := 276) (by decide +kernel)) rfl
theorem k_63 : (.initialized "RulePayroll$Values" : Cond) ∈ mm_GW := mm_in (List.mem_of_getElem? (i := 41) (by decide +kernel)) rfl
theorem k_64 : (.fieldLink "RulePayroll$Rules" 28 "RulePayroll$Rules" "worked" "[J" : Cond) ∈ mm_GW := mm_in (List.mem_of_getElem? (i := 124) (by decide +kernel)) rfl
theorem k_65 : (.constantLong "RulePayroll$Rules" 54 1000000000001 : Cond) ∈ mm_GW := mm_in (List.mem_of_getElem? (i := 297) (by decide +kernel)) rfl
theorem k_66 : (.fieldLink "RulePayroll$Rules" 18 "RulePayroll$Rules" "definitions" "[I" : Cond) ∈ mm_GW := mm_in (List.mem_of_getElem? (i := 120) (by decide +kernel)) rfl
theorem k_67 : (.methodLink "RulePayroll$Rules" 50 ⟨"RulePayroll$Rules", "workedOrEmpty", "(I)J"⟩ : Cond) ∈ mm_GW := mm_in (List.mem_of_getElem? (i := 293) (by decide +kernel)) rfl
theorem k_68 : (.instanceMethod ⟨"RulePayroll$Rules", "workedOrEmpty", "(I)J"⟩ : Cond) ∈ mm_GW := mm_in (List.mem_of_getElem? (i := 295) (by decide +kernel)) rfl
theorem k_69 : (.selects "RulePayroll$Rules" ⟨"RulePayroll$Rules", "workedOrEmpty", "(I)J"⟩ ⟨"RulePayroll$Rules", "workedOrEmpty", "(I)J"⟩ : Cond) ∈ mm_GW := mm_in (List.mem_of_getElem? (i := 6) (by decide +kernel)) rfl
theorem k_70 : (.initialized "RulePayroll$Rules" : Cond) ∈ mm_GW := mm_in (List.mem_of_getElem? (i := 33) (by decide +kernel)) rfl
theorem k_71 : (.constantLong "RulePayroll$Values" 15 1000000000001 : Cond) ∈ mm_GW := mm_in (List.mem_of_getElem? (i := 309) (by decide +kernel)) rfl
theorem k_72 : (.constantLong "RulePayroll$Values" 17 1000000000102 : Cond) ∈ mm_GW := mm_in (List.mem_of_getElem? (i := 310) (by decide +kernel)) rfl
theorem k_73 : (.constantLong "RulePayroll$Values" 46 2 : Cond) ∈ mm_GW := mm_in (List.mem_of_getElem? (i := 315) (by decide +kernel)) rfl
theorem k_74 : (.constantLong "RulePayroll$Values" 38 1000000000104 : Cond) ∈ mm_GW := mm_in (List.mem_of_getElem? (i := 316) (by decide +kernel)) rfl
theorem k_75 : (.methodLink "RulePayroll$Values" 19 ⟨"RulePayroll$Values", "isInt", "(J)Z"⟩ : Cond) ∈ mm_GW := mm_in (List.mem_of_getElem? (i := 305) (by decide +kernel)) rfl
theorem k_76 : (.methodLink "RulePayroll$Values" 42 ⟨"RulePayroll$Values", "rounded", "(JJ)J"⟩ : Cond) ∈ mm_GW := mm_in (List.mem_of_getElem? (i := 312) (by decide +kernel)) rfl
theorem k_77 : (.static ⟨"RulePayroll$Values", "rounded", "(JJ)J"⟩ : Cond) ∈ mm_GW := mm_in (List.mem_of_getElem? (i := 313) (by decide +kernel)) rfl
theorem k_78 : (.constantLong "RulePayroll$Values" 40 1000000000103 : Cond) ∈ mm_GW := mm_in (List.mem_of_getElem? (i := 311) (by decide +kernel)) rfl
theorem k_79 : (.methodLink "RulePayroll$Values" 25 ⟨"RulePayroll$Values", "faultOf", "(J)J"⟩ : Cond) ∈ mm_GW := mm_in (List.mem_of_getElem? (i := 306) (by decide +kernel)) rfl
theorem k_80 : (.static ⟨"RulePayroll$Values", "faultOf", "(J)J"⟩ : Cond) ∈ mm_GW := mm_in (List.mem_of_getElem? (i := 307) (by decide +kernel)) rfl
theorem k_81 : (.methodLink "RulePayroll$Values" 29 ⟨"RulePayroll$Values", "truthOf", "(J)J"⟩ : Cond) ∈ mm_GW := mm_in (List.mem_of_getElem? (i := 323) (by decide +kernel)) rfl
theorem k_82 : (.static ⟨"RulePayroll$Values", "truthOf", "(J)J"⟩ : Cond) ∈ mm_GW := mm_in (List.mem_of_getElem? (i := 324) (by decide +kernel)) rfl
theorem k_83 : (.constantLong "RulePayroll$Values" 32 1000000000101 : Cond) ∈ mm_GW := mm_in (List.mem_of_getElem? (i := 338) (by decide +kernel)) rfl
theorem k_84 : (.methodLink "RulePayroll$Table" 28 ⟨"RulePayroll$Values", "faultOf", "(J)J"⟩ : Cond) ∈ mm_GW := mm_in (List.mem_of_getElem? (i := 344) (by decide +kernel)) rfl
theorem k_85 : (.methodLink "RulePayroll$Table" 22 ⟨"RulePayroll$Values", "isInt", "(J)Z"⟩ : Cond) ∈ mm_GW := mm_in (List.mem_of_getElem? (i := 343) (by decide +kernel)) rfl
theorem k_86 : (.constantLong "RulePayroll$Table" 32 1000 : Cond) ∈ mm_GW := mm_in (List.mem_of_getElem? (i := 345) (by decide +kernel)) rfl
theorem k_87 : (.methodLink "RulePayroll$Table" 34 ⟨"RulePayroll$Values", "rounded", "(JJ)J"⟩ : Cond) ∈ mm_GW := mm_in (List.mem_of_getElem? (i := 346) (by decide +kernel)) rfl
theorem k_88 : (.methodLink "RulePayroll$Values" 34 ⟨"RulePayroll$Values", "ofInts", "(IJJ)J"⟩ : Cond) ∈ mm_GW := mm_in (List.mem_of_getElem? (i := 350) (by decide +kernel)) rfl
theorem k_89 : (.static ⟨"RulePayroll$Values", "ofInts", "(IJJ)J"⟩ : Cond) ∈ mm_GW := mm_in (List.mem_of_getElem? (i := 351) (by decide +kernel)) rfl
theorem k_90 : (.fieldLink "RulePayroll$Rules" 12 "RulePayroll$Rules" "nodes" "LRulePayroll$Nodes;" : Cond) ∈ mm_GW := mm_in (List.mem_of_getElem? (i := 118) (by decide +kernel)) rfl
theorem k_91 : (.fieldLink "RulePayroll$Rules" 56 "RulePayroll$Nodes" "kinds" "[I" : Cond) ∈ mm_GW := mm_in (List.mem_of_getElem? (i := 63) (by decide +kernel)) rfl
theorem k_92 : (.fieldLink "RulePayroll$Rules" 59 "RulePayroll$Nodes" "as" "[I" : Cond) ∈ mm_GW := mm_in (List.mem_of_getElem? (i := 65) (by decide +kernel)) rfl
theorem k_93 : (.fieldLink "RulePayroll$Rules" 62 "RulePayroll$Nodes" "bs" "[I" : Cond) ∈ mm_GW := mm_in (List.mem_of_getElem? (i := 67) (by decide +kernel)) rfl
theorem k_94 : (.fieldLink "RulePayroll$Rules" 65 "RulePayroll$Nodes" "cs" "[I" : Cond) ∈ mm_GW := mm_in (List.mem_of_getElem? (i := 69) (by decide +kernel)) rfl
theorem k_95 : (.fieldLink "RulePayroll$Rules" 68 "RulePayroll$Person" "inputs" "[I" : Cond) ∈ mm_GW := mm_in (List.mem_of_getElem? (i := 143) (by decide +kernel)) rfl
theorem k_96 : (.methodLink "RulePayroll$Rules" 73 ⟨"RulePayroll$Rules", "workedDefinition", "(I)J"⟩ : Cond) ∈ mm_GW := mm_in (List.mem_of_getElem? (i := 289) (by decide +kernel)) rfl
theorem k_97 : (.instanceMethod ⟨"RulePayroll$Rules", "workedDefinition", "(I)J"⟩ : Cond) ∈ mm_GW := mm_in (List.mem_of_getElem? (i := 290) (by decide +kernel)) rfl
theorem k_98 : (.selects "RulePayroll$Rules" ⟨"RulePayroll$Rules", "workedDefinition", "(I)J"⟩ ⟨"RulePayroll$Rules", "workedDefinition", "(I)J"⟩ : Cond) ∈ mm_GW := mm_in (List.mem_of_getElem? (i := 291) (by decide +kernel)) rfl
theorem k_99 : (.methodLink "RulePayroll$Rules" 76 ⟨"RulePayroll$Person", "paidSoFar", "(I)J"⟩ : Cond) ∈ mm_GW := mm_in (List.mem_of_getElem? (i := 298) (by decide +kernel)) rfl
theorem k_100 : (.instanceMethod ⟨"RulePayroll$Person", "paidSoFar", "(I)J"⟩ : Cond) ∈ mm_GW := mm_in (List.mem_of_getElem? (i := 299) (by decide +kernel)) rfl
theorem k_101 : (.selects "RulePayroll$Person" ⟨"RulePayroll$Person", "paidSoFar", "(I)J"⟩ ⟨"RulePayroll$Person", "paidSoFar", "(I)J"⟩ : Cond) ∈ mm_GW := mm_in (List.mem_of_getElem? (i := 300) (by decide +kernel)) rfl
theorem k_102 : (.initialized "RulePayroll$Person" : Cond) ∈ mm_GW := mm_in (List.mem_of_getElem? (i := 37) (by decide +kernel)) rfl
theorem k_103 : (.methodLink "RulePayroll$Rules" 79 ⟨"RulePayroll$Values", "share", "(JJJ)J"⟩ : Cond) ∈ mm_GW := mm_in (List.mem_of_getElem? (i := 302) (by decide +kernel)) rfl
theorem k_104 : (.static ⟨"RulePayroll$Values", "share", "(JJJ)J"⟩ : Cond) ∈ mm_GW := mm_in (List.mem_of_getElem? (i := 303) (by decide +kernel)) rfl
theorem k_105 : (.methodLink "RulePayroll$Rules" 85 ⟨"RulePayroll$Values", "not", "(J)J"⟩ : Cond) ∈ mm_GW := mm_in (List.mem_of_getElem? (i := 317) (by decide +kernel)) rfl
theorem k_106 : (.static ⟨"RulePayroll$Values", "not", "(J)J"⟩ : Cond) ∈ mm_GW := mm_in (List.mem_of_getElem? (i := 318) (by decide +kernel)) rfl
theorem k_107 : (.methodLink "RulePayroll$Rules" 89 ⟨"RulePayroll$Values", "both", "(JJ)J"⟩ : Cond) ∈ mm_GW := mm_in (List.mem_of_getElem? (i := 320) (by decide +kernel)) rfl
theorem k_108 : (.static ⟨"RulePayroll$Values", "both", "(JJ)J"⟩ : Cond) ∈ mm_GW := mm_in (List.mem_of_getElem? (i := 321) (by decide +kernel)) rfl
theorem k_109 : (.methodLink "RulePayroll$Rules" 93 ⟨"RulePayroll$Values", "any", "(JJ)J"⟩ : Cond) ∈ mm_GW := mm_in (List.mem_of_getElem? (i := 326) (by decide +kernel)) rfl
theorem k_110 : (.static ⟨"RulePayroll$Values", "any", "(JJ)J"⟩ : Cond) ∈ mm_GW := mm_in (List.mem_of_getElem? (i := 327) (by decide +kernel)) rfl
theorem k_111 : (.methodLink "RulePayroll$Rules" 96 ⟨"RulePayroll$Values", "choice", "(JJJ)J"⟩ : Cond) ∈ mm_GW := mm_in (List.mem_of_getElem? (i := 329) (by decide +kernel)) rfl
theorem k_112 : (.static ⟨"RulePayroll$Values", "choice", "(JJJ)J"⟩ : Cond) ∈ mm_GW := mm_in (List.mem_of_getElem? (i := 330) (by decide +kernel)) rfl
theorem k_113 : (.methodLink "RulePayroll$Rules" 99 ⟨"RulePayroll$Values", "byDefault", "(JJJ)J"⟩ : Cond) ∈ mm_GW := mm_in (List.mem_of_getElem? (i := 332) (by decide +kernel)) rfl
theorem k_114 : (.static ⟨"RulePayroll$Values", "byDefault", "(JJJ)J"⟩ : Cond) ∈ mm_GW := mm_in (List.mem_of_getElem? (i := 333) (by decide +kernel)) rfl
theorem k_115 : (.methodLink "RulePayroll$Rules" 102 ⟨"RulePayroll$Values", "also", "(JJ)J"⟩ : Cond) ∈ mm_GW := mm_in (List.mem_of_getElem? (i := 335) (by decide +kernel)) rfl
theorem k_116 : (.static ⟨"RulePayroll$Values", "also", "(JJ)J"⟩ : Cond) ∈ mm_GW := mm_in (List.mem_of_getElem? (i := 336) (by decide +kernel)) rfl
theorem k_117 : (.fieldLink "RulePayroll$Rules" 24 "RulePayroll$Rules" "tables" "[LRulePayroll$Table;" : Cond) ∈ mm_GW := mm_in (List.mem_of_getElem? (i := 122) (by decide +kernel)) rfl
theorem k_118 : (.methodLink "RulePayroll$Rules" 105 ⟨"RulePayroll$Table", "scaled", "(J)J"⟩ : Cond) ∈ mm_GW := mm_in (List.mem_of_getElem? (i := 339) (by decide +kernel)) rfl
theorem k_119 : (.instanceMethod ⟨"RulePayroll$Table", "scaled", "(J)J"⟩ : Cond) ∈ mm_GW := mm_in (List.mem_of_getElem? (i := 340) (by decide +kernel)) rfl
theorem k_120 : (.selects "RulePayroll$Table" ⟨"RulePayroll$Table", "scaled", "(J)J"⟩ ⟨"RulePayroll$Table", "scaled", "(J)J"⟩ : Cond) ∈ mm_GW := mm_in (List.mem_of_getElem? (i := 341) (by decide +kernel)) rfl
theorem k_121 : (.methodLink "RulePayroll$Rules" 108 ⟨"RulePayroll$Values", "ofTwo", "(IJJ)J"⟩ : Cond) ∈ mm_GW := mm_in (List.mem_of_getElem? (i := 347) (by decide +kernel)) rfl
theorem k_122 : (.static ⟨"RulePayroll$Values", "ofTwo", "(IJJ)J"⟩ : Cond) ∈ mm_GW := mm_in (List.mem_of_getElem? (i := 348) (by decide +kernel)) rfl
theorem k_123 : (.fieldLink "RulePayroll$Rules" 39 "RulePayroll$Nodes" "made" "I" : Cond) ∈ mm_GW := mm_in (List.mem_of_getElem? (i := 76) (by decide +kernel)) rfl
theorem k_124 : (.fieldLink "RulePayroll$Rules" 43 "RulePayroll$Nodes" "order" "[I" : Cond) ∈ mm_GW := mm_in (List.mem_of_getElem? (i := 74) (by decide +kernel)) rfl
theorem k_125 : (.methodLink "RulePayroll$Rules" 46 ⟨"RulePayroll$Rules", "workedOut", "(ILRulePayroll$Person;)J"⟩ : Cond) ∈ mm_GW := mm_in (List.mem_of_getElem? (i := 285) (by decide +kernel)) rfl
theorem k_126 : (.instanceMethod ⟨"RulePayroll$Rules", "workedOut", "(ILRulePayroll$Person;)J"⟩ : Cond) ∈ mm_GW := mm_in (List.mem_of_getElem? (i := 287) (by decide +kernel)) rfl
theorem k_127 : (.selects "RulePayroll$Rules" ⟨"RulePayroll$Rules", "workedOut", "(ILRulePayroll$Person;)J"⟩ ⟨"RulePayroll$Rules", "workedOut", "(ILRulePayroll$Person;)J"⟩ : Cond) ∈ mm_GW := mm_in (List.mem_of_getElem? (i := 5) (by decide +kernel)) rfl
theorem k_128 : (.constantLong "RulePayroll" 80 1000000000000 : Cond) ∈ mm_GW := mm_in (List.mem_of_getElem? (i := 280) (by decide +kernel)) rfl
theorem k_129 : (.fieldLink "RulePayroll" 86 "RulePayroll$Rules" "worked" "[J" : Cond) ∈ mm_GW := mm_in (List.mem_of_getElem? (i := 125) (by decide +kernel)) rfl
theorem k_130 : (.methodLink "RulePayroll" 82 ⟨"RulePayroll$Rules", "workOutFor", "(LRulePayroll$Person;)V"⟩ : Cond) ∈ mm_GW := mm_in (List.mem_of_getElem? (i := 281) (by decide +kernel)) rfl
theorem k_131 : (.instanceMethod ⟨"RulePayroll$Rules", "workOutFor", "(LRulePayroll$Person;)V"⟩ : Cond) ∈ mm_GW := mm_in (List.mem_of_getElem? (i := 282) (by decide +kernel)) rfl
theorem k_132 : (.selects "RulePayroll$Rules" ⟨"RulePayroll$Rules", "workOutFor", "(LRulePayroll$Person;)V"⟩ ⟨"RulePayroll$Rules", "workOutFor", "(LRulePayroll$Person;)V"⟩ : Cond) ∈ mm_GW := mm_in (List.mem_of_getElem? (i := 283) (by decide +kernel)) rfl
theorem k_133 : (.methodLink "RulePayroll" 76 ⟨"RulePayroll$Person", "paidIsInt", "()Z"⟩ : Cond) ∈ mm_GW := mm_in (List.mem_of_getElem? (i := 271) (by decide +kernel)) rfl
theorem k_134 : (.instanceMethod ⟨"RulePayroll$Person", "paidIsInt", "()Z"⟩ : Cond) ∈ mm_GW := mm_in (List.mem_of_getElem? (i := 272) (by decide +kernel)) rfl
theorem k_135 : (.selects "RulePayroll$Person" ⟨"RulePayroll$Person", "paidIsInt", "()Z"⟩ ⟨"RulePayroll$Person", "paidIsInt", "()Z"⟩ : Cond) ∈ mm_GW := mm_in (List.mem_of_getElem? (i := 273) (by decide +kernel)) rfl
theorem k_136 : (.fieldLink "RulePayroll$Runs" 9 "RulePayroll$Runs" "amounts" "[J" : Cond) ∈ mm_GW := mm_in (List.mem_of_getElem? (i := 163) (by decide +kernel)) rfl
theorem k_137 : (.methodLink "RulePayroll$Runs" 35 ⟨"RulePayroll$Runs", "placeOf", "(II)I"⟩ : Cond) ∈ mm_GW := mm_in (List.mem_of_getElem? (i := 370) (by decide +kernel)) rfl
theorem k_138 : (.static ⟨"RulePayroll$Runs", "placeOf", "(II)I"⟩ : Cond) ∈ mm_GW := mm_in (List.mem_of_getElem? (i := 371) (by decide +kernel)) rfl
theorem k_139 : (.initialized "RulePayroll$Runs" : Cond) ∈ mm_GW := mm_in (List.mem_of_getElem? (i := 38) (by decide +kernel)) rfl
theorem k_140 : (.fieldLink "RulePayroll$Runs" 15 "RulePayroll$Runs" "reasons" "[I" : Cond) ∈ mm_GW := mm_in (List.mem_of_getElem? (i := 164) (by decide +kernel)) rfl
theorem k_141 : (.constantLong "RulePayroll$Runs" 39 1000000000000 : Cond) ∈ mm_GW := mm_in (List.mem_of_getElem? (i := 365) (by decide +kernel)) rfl
theorem k_142 : (.methodLink "RulePayroll$Runs" 45 ⟨"RulePayroll$Runs", "hold", "(III)V"⟩ : Cond) ∈ mm_GW := mm_in (List.mem_of_getElem? (i := 373) (by decide +kernel)) rfl
theorem k_143 : (.instanceMethod ⟨"RulePayroll$Runs", "hold", "(III)V"⟩ : Cond) ∈ mm_GW := mm_in (List.mem_of_getElem? (i := 374) (by decide +kernel)) rfl
theorem k_144 : (.selects "RulePayroll$Runs" ⟨"RulePayroll$Runs", "hold", "(III)V"⟩ ⟨"RulePayroll$Runs", "hold", "(III)V"⟩ : Cond) ∈ mm_GW := mm_in (List.mem_of_getElem? (i := 375) (by decide +kernel)) rfl
theorem k_145 : (.methodLink "RulePayroll$Runs" 41 ⟨"RulePayroll$Runs", "writeSlip", "(IIJJJ)V"⟩ : Cond) ∈ mm_GW := mm_in (List.mem_of_getElem? (i := 366) (by decide +kernel)) rfl
theorem k_146 : (.instanceMethod ⟨"RulePayroll$Runs", "writeSlip", "(IIJJJ)V"⟩ : Cond) ∈ mm_GW := mm_in (List.mem_of_getElem? (i := 367) (by decide +kernel)) rfl
theorem k_147 : (.selects "RulePayroll$Runs" ⟨"RulePayroll$Runs", "writeSlip", "(IIJJJ)V"⟩ ⟨"RulePayroll$Runs", "writeSlip", "(IIJJJ)V"⟩ : Cond) ∈ mm_GW := mm_in (List.mem_of_getElem? (i := 368) (by decide +kernel)) rfl
theorem k_148 : (.constantLong "RulePayroll$Person" 36 1000000000100 : Cond) ∈ mm_GW := mm_in (List.mem_of_getElem? (i := 391) (by decide +kernel)) rfl
theorem k_149 : (.methodLink "RulePayroll$Person" 32 ⟨"RulePayroll$Values", "faultOf", "(J)J"⟩ : Cond) ∈ mm_GW := mm_in (List.mem_of_getElem? (i := 390) (by decide +kernel)) rfl
theorem k_150 : (.methodLink "RulePayroll$Person" 28 ⟨"RulePayroll$Person", "reasonOf", "(J)I"⟩ : Cond) ∈ mm_GW := mm_in (List.mem_of_getElem? (i := 387) (by decide +kernel)) rfl
theorem k_151 : (.static ⟨"RulePayroll$Person", "reasonOf", "(J)I"⟩ : Cond) ∈ mm_GW := mm_in (List.mem_of_getElem? (i := 388) (by decide +kernel)) rfl
theorem k_152 : (.fieldLink "RulePayroll" 26 "RulePayroll" "runs" "LRulePayroll$Runs;" : Cond) ∈ mm_GW := mm_in (List.mem_of_getElem? (i := 182) (by decide +kernel)) rfl
theorem k_153 : (.methodLink "RulePayroll" 165 ⟨"RulePayroll$Person", "grow", "(JJ)V"⟩ : Cond) ∈ mm_GW := mm_in (List.mem_of_getElem? (i := 393) (by decide +kernel)) rfl
theorem k_154 : (.instanceMethod ⟨"RulePayroll$Person", "grow", "(JJ)V"⟩ : Cond) ∈ mm_GW := mm_in (List.mem_of_getElem? (i := 394) (by decide +kernel)) rfl
theorem k_155 : (.selects "RulePayroll$Person" ⟨"RulePayroll$Person", "grow", "(JJ)V"⟩ ⟨"RulePayroll$Person", "grow", "(JJ)V"⟩ : Cond) ∈ mm_GW := mm_in (List.mem_of_getElem? (i := 395) (by decide +kernel)) rfl
theorem k_156 : (.methodLink "RulePayroll" 161 ⟨"RulePayroll$Runs", "writeSlip", "(IIJJJ)V"⟩ : Cond) ∈ mm_GW := mm_in (List.mem_of_getElem? (i := 392) (by decide +kernel)) rfl
theorem k_157 : (.methodLink "RulePayroll" 150 ⟨"RulePayroll$Runs", "hold", "(III)V"⟩ : Cond) ∈ mm_GW := mm_in (List.mem_of_getElem? (i := 381) (by decide +kernel)) rfl
theorem k_158 : (.methodLink "RulePayroll" 157 ⟨"RulePayroll$Person", "reasonToHold", "(JJJ)I"⟩ : Cond) ∈ mm_GW := mm_in (List.mem_of_getElem? (i := 383) (by decide +kernel)) rfl
theorem k_159 : (.instanceMethod ⟨"RulePayroll$Person", "reasonToHold", "(JJJ)I"⟩ : Cond) ∈ mm_GW := mm_in (List.mem_of_getElem? (i := 384) (by decide +kernel)) rfl
theorem k_160 : (.selects "RulePayroll$Person" ⟨"RulePayroll$Person", "reasonToHold", "(JJJ)I"⟩ ⟨"RulePayroll$Person", "reasonToHold", "(JJJ)I"⟩ : Cond) ∈ mm_GW := mm_in (List.mem_of_getElem? (i := 385) (by decide +kernel)) rfl
theorem k_161 : (.methodLink "RulePayroll" 154 ⟨"RulePayroll$Rules", "workedDefinition", "(I)J"⟩ : Cond) ∈ mm_GW := mm_in (List.mem_of_getElem? (i := 382) (by decide +kernel)) rfl
theorem k_162 : (.methodLink "RulePayroll" 147 ⟨"RulePayroll", "payOne", "(II)V"⟩ : Cond) ∈ mm_GW := mm_in (List.mem_of_getElem? (i := 377) (by decide +kernel)) rfl
theorem k_163 : (.instanceMethod ⟨"RulePayroll", "payOne", "(II)V"⟩ : Cond) ∈ mm_GW := mm_in (List.mem_of_getElem? (i := 379) (by decide +kernel)) rfl
theorem k_164 : (.selects "RulePayroll" ⟨"RulePayroll", "payOne", "(II)V"⟩ ⟨"RulePayroll", "payOne", "(II)V"⟩ : Cond) ∈ mm_GW := mm_in (List.mem_of_getElem? (i := 8) (by decide +kernel)) rfl
theorem k_165 : (.methodLink "RulePayroll" 143 ⟨"RulePayroll$Runs", "wipe", "(II)V"⟩ : Cond) ∈ mm_GW := mm_in (List.mem_of_getElem? (i := 361) (by decide +kernel)) rfl
theorem k_166 : (.instanceMethod ⟨"RulePayroll$Runs", "wipe", "(II)V"⟩ : Cond) ∈ mm_GW := mm_in (List.mem_of_getElem? (i := 362) (by decide +kernel)) rfl
theorem k_167 : (.selects "RulePayroll$Runs" ⟨"RulePayroll$Runs", "wipe", "(II)V"⟩ ⟨"RulePayroll$Runs", "wipe", "(II)V"⟩ : Cond) ∈ mm_GW := mm_in (List.mem_of_getElem? (i := 363) (by decide +kernel)) rfl
theorem k_168 : (.fieldLink "RulePayroll" 90 "RulePayroll$Runs" "made" "I" : Cond) ∈ mm_GW := mm_in (List.mem_of_getElem? (i := 169) (by decide +kernel)) rfl
theorem k_169 : (.methodLink "RulePayroll" 94 ⟨"RulePayroll", "payAll", "(I)V"⟩ : Cond) ∈ mm_GW := mm_in (List.mem_of_getElem? (i := 357) (by decide +kernel)) rfl
theorem k_170 : (.instanceMethod ⟨"RulePayroll", "payAll", "(I)V"⟩ : Cond) ∈ mm_GW := mm_in (List.mem_of_getElem? (i := 359) (by decide +kernel)) rfl
theorem k_171 : (.selects "RulePayroll" ⟨"RulePayroll", "payAll", "(I)V"⟩ ⟨"RulePayroll", "payAll", "(I)V"⟩ : Cond) ∈ mm_GW := mm_in (List.mem_of_getElem? (i := 7) (by decide +kernel)) rfl
theorem k_172 : (.fieldLink "RulePayroll$Runs" 23 "RulePayroll$Runs" "made" "I" : Cond) ∈ mm_GW := mm_in (List.mem_of_getElem? (i := 168) (by decide +kernel)) rfl
theorem k_173 : (.fieldLink "RulePayroll$Runs" 19 "RulePayroll$Runs" "takenBack" "[Z" : Cond) ∈ mm_GW := mm_in (List.mem_of_getElem? (i := 166) (by decide +kernel)) rfl
theorem k_174 : (.methodLink "RulePayroll$Runs" 31 ⟨"RulePayroll$Runs", "has", "(I)Z"⟩ : Cond) ∈ mm_GW := mm_in (List.mem_of_getElem? (i := 405) (by decide +kernel)) rfl
theorem k_175 : (.instanceMethod ⟨"RulePayroll$Runs", "has", "(I)Z"⟩ : Cond) ∈ mm_GW := mm_in (List.mem_of_getElem? (i := 406) (by decide +kernel)) rfl
theorem k_176 : (.selects "RulePayroll$Runs" ⟨"RulePayroll$Runs", "has", "(I)Z"⟩ ⟨"RulePayroll$Runs", "has", "(I)Z"⟩ : Cond) ∈ mm_GW := mm_in (List.mem_of_getElem? (i := 407) (by decide +kernel)) rfl
theorem k_177 : (.methodLink "RulePayroll" 113 ⟨"RulePayroll$Runs", "amountOf", "(III)J"⟩ : Cond) ∈ mm_GW := mm_in (List.mem_of_getElem? (i := 418) (by decide +kernel)) rfl
theorem k_178 : (.instanceMethod ⟨"RulePayroll$Runs", "amountOf", "(III)J"⟩ : Cond) ∈ mm_GW := mm_in (List.mem_of_getElem? (i := 419) (by decide +kernel)) rfl
theorem k_179 : (.selects "RulePayroll$Runs" ⟨"RulePayroll$Runs", "amountOf", "(III)J"⟩ ⟨"RulePayroll$Runs", "amountOf", "(III)J"⟩ : Cond) ∈ mm_GW := mm_in (List.mem_of_getElem? (i := 420) (by decide +kernel)) rfl
theorem k_180 : (.methodLink "RulePayroll" 169 ⟨"RulePayroll$Runs", "hasSlip", "(II)Z"⟩ : Cond) ∈ mm_GW := mm_in (List.mem_of_getElem? (i := 414) (by decide +kernel)) rfl
theorem k_181 : (.instanceMethod ⟨"RulePayroll$Runs", "hasSlip", "(II)Z"⟩ : Cond) ∈ mm_GW := mm_in (List.mem_of_getElem? (i := 415) (by decide +kernel)) rfl
theorem k_182 : (.selects "RulePayroll$Runs" ⟨"RulePayroll$Runs", "hasSlip", "(II)Z"⟩ ⟨"RulePayroll$Runs", "hasSlip", "(II)Z"⟩ : Cond) ∈ mm_GW := mm_in (List.mem_of_getElem? (i := 416) (by decide +kernel)) rfl
theorem k_183 : (.fieldLink "RulePayroll" 104 "RulePayroll$Runs" "takenBack" "[Z" : Cond) ∈ mm_GW := mm_in (List.mem_of_getElem? (i := 167) (by decide +kernel)) rfl
theorem k_184 : (.methodLink "RulePayroll" 101 ⟨"RulePayroll", "unpayAll", "(I)V"⟩ : Cond) ∈ mm_GW := mm_in (List.mem_of_getElem? (i := 410) (by decide +kernel)) rfl
theorem k_185 : (.instanceMethod ⟨"RulePayroll", "unpayAll", "(I)V"⟩ : Cond) ∈ mm_GW := mm_in (List.mem_of_getElem? (i := 412) (by decide +kernel)) rfl
theorem k_186 : (.selects "RulePayroll" ⟨"RulePayroll", "unpayAll", "(I)V"⟩ ⟨"RulePayroll", "unpayAll", "(I)V"⟩ : Cond) ∈ mm_GW := mm_in (List.mem_of_getElem? (i := 9) (by decide +kernel)) rfl
theorem k_187 : (.methodLink "RulePayroll" 98 ⟨"RulePayroll$Runs", "stands", "(I)Z"⟩ : Cond) ∈ mm_GW := mm_in (List.mem_of_getElem? (i := 401) (by decide +kernel)) rfl
theorem k_188 : (.instanceMethod ⟨"RulePayroll$Runs", "stands", "(I)Z"⟩ : Cond) ∈ mm_GW := mm_in (List.mem_of_getElem? (i := 402) (by decide +kernel)) rfl
theorem k_189 : (.selects "RulePayroll$Runs" ⟨"RulePayroll$Runs", "stands", "(I)Z"⟩ ⟨"RulePayroll$Runs", "stands", "(I)Z"⟩ : Cond) ∈ mm_GW := mm_in (List.mem_of_getElem? (i := 403) (by decide +kernel)) rfl
theorem k_190 : (.methodLink "RulePayroll$Runs" 49 ⟨"RulePayroll$Runs", "hasSlip", "(II)Z"⟩ : Cond) ∈ mm_GW := mm_in (List.mem_of_getElem? (i := 430) (by decide +kernel)) rfl
theorem k_191 : (.methodLink "RulePayroll" 108 ⟨"RulePayroll$Runs", "slipsOf", "(I)I"⟩ : Cond) ∈ mm_GW := mm_in (List.mem_of_getElem? (i := 426) (by decide +kernel)) rfl
theorem k_192 : (.instanceMethod ⟨"RulePayroll$Runs", "slipsOf", "(I)I"⟩ : Cond) ∈ mm_GW := mm_in (List.mem_of_getElem? (i := 427) (by decide +kernel)) rfl
theorem k_193 : (.selects "RulePayroll$Runs" ⟨"RulePayroll$Runs", "slipsOf", "(I)I"⟩ ⟨"RulePayroll$Runs", "slipsOf", "(I)I"⟩ : Cond) ∈ mm_GW := mm_in (List.mem_of_getElem? (i := 428) (by decide +kernel)) rfl
theorem k_194 : (.methodLink "RulePayroll" 112 ⟨"RulePayroll$Runs", "has", "(I)Z"⟩ : Cond) ∈ mm_GW := mm_in (List.mem_of_getElem? (i := 435) (by decide +kernel)) rfl
theorem k_195 : (.fieldLink "RulePayroll" 117 "RulePayroll$Runs" "reasons" "[I" : Cond) ∈ mm_GW := mm_in (List.mem_of_getElem? (i := 165) (by decide +kernel)) rfl
theorem k_196 : (.methodLink "RulePayroll$Runs" 60 ⟨"RulePayroll$Runs", "amountOf", "(III)J"⟩ : Cond) ∈ mm_GW := mm_in (List.mem_of_getElem? (i := 452) (by decide +kernel)) rfl
theorem k_197 : (.methodLink "RulePayroll$Runs" 56 ⟨"RulePayroll$Runs", "totalOfRun", "(II)J"⟩ : Cond) ∈ mm_GW := mm_in (List.mem_of_getElem? (i := 448) (by decide +kernel)) rfl
theorem k_198 : (.instanceMethod ⟨"RulePayroll$Runs", "totalOfRun", "(II)J"⟩ : Cond) ∈ mm_GW := mm_in (List.mem_of_getElem? (i := 450) (by decide +kernel)) rfl
theorem k_199 : (.selects "RulePayroll$Runs" ⟨"RulePayroll$Runs", "totalOfRun", "(II)J"⟩ ⟨"RulePayroll$Runs", "totalOfRun", "(II)J"⟩ : Cond) ∈ mm_GW := mm_in (List.mem_of_getElem? (i := 10) (by decide +kernel)) rfl
theorem k_200 : (.methodLink "RulePayroll" 120 ⟨"RulePayroll$Runs", "totalOf", "(I)J"⟩ : Cond) ∈ mm_GW := mm_in (List.mem_of_getElem? (i := 444) (by decide +kernel)) rfl
theorem k_201 : (.instanceMethod ⟨"RulePayroll$Runs", "totalOf", "(I)J"⟩ : Cond) ∈ mm_GW := mm_in (List.mem_of_getElem? (i := 445) (by decide +kernel)) rfl
theorem k_202 : (.selects "RulePayroll$Runs" ⟨"RulePayroll$Runs", "totalOf", "(I)J"⟩ ⟨"RulePayroll$Runs", "totalOf", "(I)J"⟩ : Cond) ∈ mm_GW := mm_in (List.mem_of_getElem? (i := 446) (by decide +kernel)) rfl
theorem k_203 : (.methodLink "RulePayroll" 124 ⟨"RulePayroll$Person", "paidSoFar", "(I)J"⟩ : Cond) ∈ mm_GW := mm_in (List.mem_of_getElem? (i := 457) (by decide +kernel)) rfl
theorem k_204 : (.methodLink "RulePayroll$Runs" 52 ⟨"RulePayroll$Runs", "slipsOf", "(I)I"⟩ : Cond) ∈ mm_GW := mm_in (List.mem_of_getElem? (i := 470) (by decide +kernel)) rfl
theorem k_205 : (.fieldLink "RulePayroll" 127 "RulePayroll$Nodes" "made" "I" : Cond) ∈ mm_GW := mm_in (List.mem_of_getElem? (i := 77) (by decide +kernel)) rfl
theorem k_206 : (.methodLink "RulePayroll" 128 ⟨"RulePayroll$Runs", "howManyTakenBack", "()I"⟩ : Cond) ∈ mm_GW := mm_in (List.mem_of_getElem? (i := 462) (by decide +kernel)) rfl
theorem k_207 : (.instanceMethod ⟨"RulePayroll$Runs", "howManyTakenBack", "()I"⟩ : Cond) ∈ mm_GW := mm_in (List.mem_of_getElem? (i := 463) (by decide +kernel)) rfl
theorem k_208 : (.selects "RulePayroll$Runs" ⟨"RulePayroll$Runs", "howManyTakenBack", "()I"⟩ ⟨"RulePayroll$Runs", "howManyTakenBack", "()I"⟩ : Cond) ∈ mm_GW := mm_in (List.mem_of_getElem? (i := 464) (by decide +kernel)) rfl
theorem k_209 : (.methodLink "RulePayroll" 131 ⟨"RulePayroll$Runs", "slipsStanding", "()I"⟩ : Cond) ∈ mm_GW := mm_in (List.mem_of_getElem? (i := 466) (by decide +kernel)) rfl
theorem k_210 : (.instanceMethod ⟨"RulePayroll$Runs", "slipsStanding", "()I"⟩ : Cond) ∈ mm_GW := mm_in (List.mem_of_getElem? (i := 467) (by decide +kernel)) rfl
theorem k_211 : (.selects "RulePayroll$Runs" ⟨"RulePayroll$Runs", "slipsStanding", "()I"⟩ ⟨"RulePayroll$Runs", "slipsStanding", "()I"⟩ : Cond) ∈ mm_GW := mm_in (List.mem_of_getElem? (i := 468) (by decide +kernel)) rfl
theorem k_212 : (.methodLink "RulePayroll" 134 ⟨"RulePayroll", "howManyActive", "()I"⟩ : Cond) ∈ mm_GW := mm_in (List.mem_of_getElem? (i := 471) (by decide +kernel)) rfl
theorem k_213 : (.instanceMethod ⟨"RulePayroll", "howManyActive", "()I"⟩ : Cond) ∈ mm_GW := mm_in (List.mem_of_getElem? (i := 473) (by decide +kernel)) rfl
theorem k_214 : (.selects "RulePayroll" ⟨"RulePayroll", "howManyActive", "()I"⟩ ⟨"RulePayroll", "howManyActive", "()I"⟩ : Cond) ∈ mm_GW := mm_in (List.mem_of_getElem? (i := 11) (by decide +kernel)) rfl
theorem k_215 : (.fieldLink "RulePayroll" 137 "RulePayroll$Table" "steps" "I" : Cond) ∈ mm_GW := mm_in (List.mem_of_getElem? (i := 109) (by decide +kernel)) rfl
theorem k_216 : (.methodLink "RulePayroll" 140 ⟨"RulePayroll$Rules", "definitionBits", "()I"⟩ : Cond) ∈ mm_GW := mm_in (List.mem_of_getElem? (i := 475) (by decide +kernel)) rfl
theorem k_217 : (.instanceMethod ⟨"RulePayroll$Rules", "definitionBits", "()I"⟩ : Cond) ∈ mm_GW := mm_in (List.mem_of_getElem? (i := 476) (by decide +kernel)) rfl
theorem k_218 : (.selects "RulePayroll$Rules" ⟨"RulePayroll$Rules", "definitionBits", "()I"⟩ ⟨"RulePayroll$Rules", "definitionBits", "()I"⟩ : Cond) ∈ mm_GW := mm_in (List.mem_of_getElem? (i := 477) (by decide +kernel)) rfl
theorem k_219 : (.fieldLink "RulePayrollModel" 7 "RulePayrollModel" "nodes" "I" : Cond) ∈ mm_GW := mm_in (List.mem_of_getElem? (i := 485) (by decide +kernel)) rfl
theorem k_220 : (.methodLink "RulePayrollModel" 76 ⟨"RulePayrollModel", "out", "(III)Z"⟩ : Cond) ∈ mm_GW := mm_in (List.mem_of_getElem? (i := 557) (by decide +kernel)) rfl
theorem k_221 : (.instanceMethod ⟨"RulePayrollModel", "out", "(III)Z"⟩ : Cond) ∈ mm_GW := mm_in (List.mem_of_getElem? (i := 559) (by decide +kernel)) rfl
theorem k_222 : (.selects "RulePayrollModel" ⟨"RulePayrollModel", "out", "(III)Z"⟩ ⟨"RulePayrollModel", "out", "(III)Z"⟩ : Cond) ∈ mm_GW := mm_in (List.mem_of_getElem? (i := 13) (by decide +kernel)) rfl
theorem k_223 : (.initialized "RulePayrollModel" : Cond) ∈ mm_GW := mm_in (List.mem_of_getElem? (i := 39) (by decide +kernel)) rfl
theorem k_224 : (.methodLink "RulePayrollModel" 84 ⟨"RulePayrollModel", "isNode", "(I)Z"⟩ : Cond) ∈ mm_GW := mm_in (List.mem_of_getElem? (i := 565) (by decide +kernel)) rfl
theorem k_225 : (.instanceMethod ⟨"RulePayrollModel", "isNode", "(I)Z"⟩ : Cond) ∈ mm_GW := mm_in (List.mem_of_getElem? (i := 567) (by decide +kernel)) rfl
theorem k_226 : (.selects "RulePayrollModel" ⟨"RulePayrollModel", "isNode", "(I)Z"⟩ ⟨"RulePayrollModel", "isNode", "(I)Z"⟩ : Cond) ∈ mm_GW := mm_in (List.mem_of_getElem? (i := 15) (by decide +kernel)) rfl
theorem k_227 : (.methodLink "RulePayrollModel" 80 ⟨"RulePayrollModel", "named", "(I)I"⟩ : Cond) ∈ mm_GW := mm_in (List.mem_of_getElem? (i := 561) (by decide +kernel)) rfl
theorem k_228 : (.instanceMethod ⟨"RulePayrollModel", "named", "(I)I"⟩ : Cond) ∈ mm_GW := mm_in (List.mem_of_getElem? (i := 563) (by decide +kernel)) rfl
theorem k_229 : (.selects "RulePayrollModel" ⟨"RulePayrollModel", "named", "(I)I"⟩ ⟨"RulePayrollModel", "named", "(I)I"⟩ : Cond) ∈ mm_GW := mm_in (List.mem_of_getElem? (i := 14) (by decide +kernel)) rfl
theorem k_230 : (.methodLink "RulePayrollModel" 88 ⟨"RulePayrollModel", "fits", "(IIII)Z"⟩ : Cond) ∈ mm_GW := mm_in (List.mem_of_getElem? (i := 553) (by decide +kernel)) rfl
theorem k_231 : (.instanceMethod ⟨"RulePayrollModel", "fits", "(IIII)Z"⟩ : Cond) ∈ mm_GW := mm_in (List.mem_of_getElem? (i := 555) (by decide +kernel)) rfl
theorem k_232 : (.selects "RulePayrollModel" ⟨"RulePayrollModel", "fits", "(IIII)Z"⟩ ⟨"RulePayrollModel", "fits", "(IIII)Z"⟩ : Cond) ∈ mm_GW := mm_in (List.mem_of_getElem? (i := 12) (by decide +kernel)) rfl
theorem k_233 : (.fieldLink "RulePayrollModel" 29 "RulePayrollModel" "level" "[I" : Cond) ∈ mm_GW := mm_in (List.mem_of_getElem? (i := 491) (by decide +kernel)) rfl
theorem k_234 : (.methodLink "RulePayrollModel" 92 ⟨"RulePayrollModel", "high", "(IZI)I"⟩ : Cond) ∈ mm_GW := mm_in (List.mem_of_getElem? (i := 569) (by decide +kernel)) rfl
theorem k_235 : (.instanceMethod ⟨"RulePayrollModel", "high", "(IZI)I"⟩ : Cond) ∈ mm_GW := mm_in (List.mem_of_getElem? (i := 571) (by decide +kernel)) rfl
theorem k_236 : (.selects "RulePayrollModel" ⟨"RulePayrollModel", "high", "(IZI)I"⟩ ⟨"RulePayrollModel", "high", "(IZI)I"⟩ : Cond) ∈ mm_GW := mm_in (List.mem_of_getElem? (i := 16) (by decide +kernel)) rfl
theorem k_237 : (.fieldLink "RulePayrollModel" 32 "RulePayrollModel" "rank" "[I" : Cond) ∈ mm_GW := mm_in (List.mem_of_getElem? (i := 492) (by decide +kernel)) rfl
theorem k_238 : (.fieldLink "RulePayrollModel" 16 "RulePayrollModel" "kind" "[I" : Cond) ∈ mm_GW := mm_in (List.mem_of_getElem? (i := 487) (by decide +kernel)) rfl
theorem k_239 : (.fieldLink "RulePayrollModel" 20 "RulePayrollModel" "opA" "[I" : Cond) ∈ mm_GW := mm_in (List.mem_of_getElem? (i := 488) (by decide +kernel)) rfl
theorem k_240 : (.fieldLink "RulePayrollModel" 23 "RulePayrollModel" "opB" "[I" : Cond) ∈ mm_GW := mm_in (List.mem_of_getElem? (i := 489) (by decide +kernel)) rfl
theorem k_241 : (.fieldLink "RulePayrollModel" 26 "RulePayrollModel" "opC" "[I" : Cond) ∈ mm_GW := mm_in (List.mem_of_getElem? (i := 490) (by decide +kernel)) rfl
theorem k_242 : (.fieldLink "RulePayrollModel" 35 "RulePayrollModel" "definition" "[I" : Cond) ∈ mm_GW := mm_in (List.mem_of_getElem? (i := 493) (by decide +kernel)) rfl
theorem k_243 : (.fieldLink "RulePayrollModel" 38 "RulePayrollModel" "steps" "[I" : Cond) ∈ mm_GW := mm_in (List.mem_of_getElem? (i := 494) (by decide +kernel)) rfl
theorem k_244 : (.fieldLink "RulePayrollModel" 41 "RulePayrollModel" "limit" "[I" : Cond) ∈ mm_GW := mm_in (List.mem_of_getElem? (i := 495) (by decide +kernel)) rfl
theorem k_245 : (.fieldLink "RulePayrollModel" 44 "RulePayrollModel" "rate" "[I" : Cond) ∈ mm_GW := mm_in (List.mem_of_getElem? (i := 496) (by decide +kernel)) rfl
theorem k_246 : (.fieldLink "RulePayrollModel" 47 "RulePayrollModel" "inputs" "[I" : Cond) ∈ mm_GW := mm_in (List.mem_of_getElem? (i := 497) (by decide +kernel)) rfl
theorem k_247 : (.fieldLink "RulePayrollModel" 50 "RulePayrollModel" "active" "[Z" : Cond) ∈ mm_GW := mm_in (List.mem_of_getElem? (i := 498) (by decide +kernel)) rfl
theorem k_248 : (.constantLong "RulePayrollModel" 96 (-2147483648) : Cond) ∈ mm_GW := mm_in (List.mem_of_getElem? (i := 609) (by decide +kernel)) rfl
theorem k_249 : (.constantLong "RulePayrollModel" 98 2147483647 : Cond) ∈ mm_GW := mm_in (List.mem_of_getElem? (i := 610) (by decide +kernel)) rfl
theorem k_250 : (.constantLong "RulePayrollModel" 104 1000000000104 : Cond) ∈ mm_GW := mm_in (List.mem_of_getElem? (i := 646) (by decide +kernel)) rfl
theorem k_251 : (.methodLink "RulePayrollModel" 100 ⟨"RulePayrollModel", "whole", "(J)Z"⟩ : Cond) ∈ mm_GW := mm_in (List.mem_of_getElem? (i := 605) (by decide +kernel)) rfl
theorem k_252 : (.instanceMethod ⟨"RulePayrollModel", "whole", "(J)Z"⟩ : Cond) ∈ mm_GW := mm_in (List.mem_of_getElem? (i := 607) (by decide +kernel)) rfl
theorem k_253 : (.selects "RulePayrollModel" ⟨"RulePayrollModel", "whole", "(J)Z"⟩ ⟨"RulePayrollModel", "whole", "(J)Z"⟩ : Cond) ∈ mm_GW := mm_in (List.mem_of_getElem? (i := 18) (by decide +kernel)) rfl
theorem k_254 : (.constantLong "RulePayrollModel" 106 1000000000001 : Cond) ∈ mm_GW := mm_in (List.mem_of_getElem? (i := 616) (by decide +kernel)) rfl
theorem k_255 : (.constantLong "RulePayrollModel" 110 1000000000100 : Cond) ∈ mm_GW := mm_in (List.mem_of_getElem? (i := 625) (by decide +kernel)) rfl
theorem k_256 : (.constantLong "RulePayrollModel" 108 1000000000102 : Cond) ∈ mm_GW := mm_in (List.mem_of_getElem? (i := 626) (by decide +kernel)) rfl
theorem k_257 : (.constantLong "RulePayrollModel" 112 1000 : Cond) ∈ mm_GW := mm_in (List.mem_of_getElem? (i := 636) (by decide +kernel)) rfl
theorem k_258 : (.methodLink "RulePayrollModel" 114 ⟨"RulePayrollModel", "rounded", "(JJ)J"⟩ : Cond) ∈ mm_GW := mm_in (List.mem_of_getElem? (i := 637) (by decide +kernel)) rfl
theorem k_259 : (.instanceMethod ⟨"RulePayrollModel", "rounded", "(JJ)J"⟩ : Cond) ∈ mm_GW := mm_in (List.mem_of_getElem? (i := 639) (by decide +kernel)) rfl
theorem k_260 : (.selects "RulePayrollModel" ⟨"RulePayrollModel", "rounded", "(JJ)J"⟩ ⟨"RulePayrollModel", "rounded", "(JJ)J"⟩ : Cond) ∈ mm_GW := mm_in (List.mem_of_getElem? (i := 24) (by decide +kernel)) rfl
theorem k_261 : (.methodLink "RulePayrollModel" 118 ⟨"RulePayrollModel", "ranged", "(J)J"⟩ : Cond) ∈ mm_GW := mm_in (List.mem_of_getElem? (i := 642) (by decide +kernel)) rfl
theorem k_262 : (.instanceMethod ⟨"RulePayrollModel", "ranged", "(J)J"⟩ : Cond) ∈ mm_GW := mm_in (List.mem_of_getElem? (i := 644) (by decide +kernel)) rfl
theorem k_263 : (.selects "RulePayrollModel" ⟨"RulePayrollModel", "ranged", "(J)J"⟩ ⟨"RulePayrollModel", "ranged", "(J)J"⟩ : Cond) ∈ mm_GW := mm_in (List.mem_of_getElem? (i := 25) (by decide +kernel)) rfl
theorem k_264 : (.fieldLink "RulePayrollModel" 70 "RulePayrollModel" "is" "[J" : Cond) ∈ mm_GW := mm_in (List.mem_of_getElem? (i := 504) (by decide +kernel)) rfl
theorem k_265 : (.methodLink "RulePayrollModel" 124 ⟨"RulePayrollModel", "stops", "(J)J"⟩ : Cond) ∈ mm_GW := mm_in (List.mem_of_getElem? (i := 628) (by decide +kernel)) rfl
theorem k_266 : (.instanceMethod ⟨"RulePayrollModel", "stops", "(J)J"⟩ : Cond) ∈ mm_GW := mm_in (List.mem_of_getElem? (i := 630) (by decide +kernel)) rfl
theorem k_267 : (.selects "RulePayrollModel" ⟨"RulePayrollModel", "stops", "(J)J"⟩ ⟨"RulePayrollModel", "stops", "(J)J"⟩ : Cond) ∈ mm_GW := mm_in (List.mem_of_getElem? (i := 22) (by decide +kernel)) rfl
theorem k_268 : (.constantLong "RulePayrollModel" 122 1000000000101 : Cond) ∈ mm_GW := mm_in (List.mem_of_getElem? (i := 627) (by decide +kernel)) rfl
theorem k_269 : (.methodLink "RulePayrollModel" 131 ⟨"RulePayrollModel", "scale", "(IJ)J"⟩ : Cond) ∈ mm_GW := mm_in (List.mem_of_getElem? (i := 632) (by decide +kernel)) rfl
theorem k_270 : (.instanceMethod ⟨"RulePayrollModel", "scale", "(IJ)J"⟩ : Cond) ∈ mm_GW := mm_in (List.mem_of_getElem? (i := 634) (by decide +kernel)) rfl
theorem k_271 : (.selects "RulePayrollModel" ⟨"RulePayrollModel", "scale", "(IJ)J"⟩ ⟨"RulePayrollModel", "scale", "(IJ)J"⟩ : Cond) ∈ mm_GW := mm_in (List.mem_of_getElem? (i := 23) (by decide +kernel)) rfl
theorem k_272 : (.fieldLink "RulePayrollModel" 67 "RulePayrollModel" "paid" "[J" : Cond) ∈ mm_GW := mm_in (List.mem_of_getElem? (i := 503) (by decide +kernel)) rfl
theorem k_273 : (.fieldLink "RulePayrollModel" 73 "RulePayrollModel" "defined" "[J" : Cond) ∈ mm_GW := mm_in (List.mem_of_getElem? (i := 505) (by decide +kernel)) rfl
theorem k_274 : (.methodLink "RulePayrollModel" 127 ⟨"RulePayrollModel", "choose", "(II)J"⟩ : Cond) ∈ mm_GW := mm_in (List.mem_of_getElem? (i := 621) (by decide +kernel)) rfl
theorem k_275 : (.instanceMethod ⟨"RulePayrollModel", "choose", "(II)J"⟩ : Cond) ∈ mm_GW := mm_in (List.mem_of_getElem? (i := 623) (by decide +kernel)) rfl
theorem k_276 : (.selects "RulePayrollModel" ⟨"RulePayrollModel", "choose", "(II)J"⟩ ⟨"RulePayrollModel", "choose", "(II)J"⟩ : Cond) ∈ mm_GW := mm_in (List.mem_of_getElem? (i := 21) (by decide +kernel)) rfl
theorem k_277 : (.methodLink "RulePayrollModel" 137 ⟨"RulePayrollModel", "plain", "(IJJ)J"⟩ : Cond) ∈ mm_GW := mm_in (List.mem_of_getElem? (i := 647) (by decide +kernel)) rfl
theorem k_278 : (.instanceMethod ⟨"RulePayrollModel", "plain", "(IJJ)J"⟩ : Cond) ∈ mm_GW := mm_in (List.mem_of_getElem? (i := 649) (by decide +kernel)) rfl
theorem k_279 : (.selects "RulePayrollModel" ⟨"RulePayrollModel", "plain", "(IJJ)J"⟩ ⟨"RulePayrollModel", "plain", "(IJJ)J"⟩ : Cond) ∈ mm_GW := mm_in (List.mem_of_getElem? (i := 26) (by decide +kernel)) rfl
theorem k_280 : (.constantLong "RulePayrollModel" 135 1000000000103 : Cond) ∈ mm_GW := mm_in (List.mem_of_getElem? (i := 641) (by decide +kernel)) rfl
theorem k_281 : (.methodLink "RulePayrollModel" 141 ⟨"RulePayrollModel", "workOut", "(II)J"⟩ : Cond) ∈ mm_GW := mm_in (List.mem_of_getElem? (i := 617) (by decide +kernel)) rfl
theorem k_282 : (.instanceMethod ⟨"RulePayrollModel", "workOut", "(II)J"⟩ : Cond) ∈ mm_GW := mm_in (List.mem_of_getElem? (i := 619) (by decide +kernel)) rfl
theorem k_283 : (.selects "RulePayrollModel" ⟨"RulePayrollModel", "workOut", "(II)J"⟩ ⟨"RulePayrollModel", "workOut", "(II)J"⟩ : Cond) ∈ mm_GW := mm_in (List.mem_of_getElem? (i := 20) (by decide +kernel)) rfl
theorem k_284 : (.constantLong "RulePayrollModel" 147 1000000000000 : Cond) ∈ mm_GW := mm_in (List.mem_of_getElem? (i := 611) (by decide +kernel)) rfl
theorem k_285 : (.methodLink "RulePayrollModel" 149 ⟨"RulePayrollModel", "person", "(I)V"⟩ : Cond) ∈ mm_GW := mm_in (List.mem_of_getElem? (i := 612) (by decide +kernel)) rfl
theorem k_286 : (.instanceMethod ⟨"RulePayrollModel", "person", "(I)V"⟩ : Cond) ∈ mm_GW := mm_in (List.mem_of_getElem? (i := 614) (by decide +kernel)) rfl
theorem k_287 : (.selects "RulePayrollModel" ⟨"RulePayrollModel", "person", "(I)V"⟩ ⟨"RulePayrollModel", "person", "(I)V"⟩ : Cond) ∈ mm_GW := mm_in (List.mem_of_getElem? (i := 19) (by decide +kernel)) rfl
theorem k_288 : (.methodLink "RulePayrollModel" 144 ⟨"RulePayrollModel", "paidWhole", "(I)Z"⟩ : Cond) ∈ mm_GW := mm_in (List.mem_of_getElem? (i := 601) (by decide +kernel)) rfl
theorem k_289 : (.instanceMethod ⟨"RulePayrollModel", "paidWhole", "(I)Z"⟩ : Cond) ∈ mm_GW := mm_in (List.mem_of_getElem? (i := 603) (by decide +kernel)) rfl
theorem k_290 : (.selects "RulePayrollModel" ⟨"RulePayrollModel", "paidWhole", "(I)Z"⟩ ⟨"RulePayrollModel", "paidWhole", "(I)Z"⟩ : Cond) ∈ mm_GW := mm_in (List.mem_of_getElem? (i := 17) (by decide +kernel)) rfl
theorem k_291 : (.fieldLink "RulePayrollModel" 57 "RulePayrollModel" "has" "[Z" : Cond) ∈ mm_GW := mm_in (List.mem_of_getElem? (i := 500) (by decide +kernel)) rfl
theorem k_292 : (.fieldLink "RulePayrollModel" 63 "RulePayrollModel" "slip" "[J" : Cond) ∈ mm_GW := mm_in (List.mem_of_getElem? (i := 502) (by decide +kernel)) rfl
theorem k_293 : (.fieldLink "RulePayrollModel" 54 "RulePayrollModel" "taken" "[Z" : Cond) ∈ mm_GW := mm_in (List.mem_of_getElem? (i := 499) (by decide +kernel)) rfl
theorem k_294 : (.fieldLink "RulePayrollModel" 60 "RulePayrollModel" "reason" "[I" : Cond) ∈ mm_GW := mm_in (List.mem_of_getElem? (i := 501) (by decide +kernel)) rfl
theorem k_295 : (.methodLink "RulePayrollModel" 153 ⟨"RulePayrollModel", "payOne", "(II)I"⟩ : Cond) ∈ mm_GW := mm_in (List.mem_of_getElem? (i := 659) (by decide +kernel)) rfl
theorem k_296 : (.instanceMethod ⟨"RulePayrollModel", "payOne", "(II)I"⟩ : Cond) ∈ mm_GW := mm_in (List.mem_of_getElem? (i := 661) (by decide +kernel)) rfl
theorem k_297 : (.selects "RulePayrollModel" ⟨"RulePayrollModel", "payOne", "(II)I"⟩ ⟨"RulePayrollModel", "payOne", "(II)I"⟩ : Cond) ∈ mm_GW := mm_in (List.mem_of_getElem? (i := 28) (by decide +kernel)) rfl
theorem k_298 : (.fieldLink "RulePayrollModel" 13 "RulePayrollModel" "runs" "I" : Cond) ∈ mm_GW := mm_in (List.mem_of_getElem? (i := 486) (by decide +kernel)) rfl
theorem k_299 : (.methodLink "RulePayrollModel" 157 ⟨"RulePayrollModel", "payAll", "(I)V"⟩ : Cond) ∈ mm_GW := mm_in (List.mem_of_getElem? (i := 655) (by decide +kernel)) rfl
theorem k_300 : (.instanceMethod ⟨"RulePayrollModel", "payAll", "(I)V"⟩ : Cond) ∈ mm_GW := mm_in (List.mem_of_getElem? (i := 657) (by decide +kernel)) rfl
theorem k_301 : (.selects "RulePayrollModel" ⟨"RulePayrollModel", "payAll", "(I)V"⟩ ⟨"RulePayrollModel", "payAll", "(I)V"⟩ : Cond) ∈ mm_GW := mm_in (List.mem_of_getElem? (i := 27) (by decide +kernel)) rfl
theorem k_302 : (.methodLink "RulePayrollModel" 160 ⟨"RulePayrollModel", "takeBack", "(I)V"⟩ : Cond) ∈ mm_GW := mm_in (List.mem_of_getElem? (i := 667) (by decide +kernel)) rfl
theorem k_303 : (.instanceMethod ⟨"RulePayrollModel", "takeBack", "(I)V"⟩ : Cond) ∈ mm_GW := mm_in (List.mem_of_getElem? (i := 669) (by decide +kernel)) rfl
theorem k_304 : (.selects "RulePayrollModel" ⟨"RulePayrollModel", "takeBack", "(I)V"⟩ ⟨"RulePayrollModel", "takeBack", "(I)V"⟩ : Cond) ∈ mm_GW := mm_in (List.mem_of_getElem? (i := 29) (by decide +kernel)) rfl
theorem k_305 : (.methodLink "RulePayrollModel" 163 ⟨"RulePayrollModel", "slips", "(I)I"⟩ : Cond) ∈ mm_GW := mm_in (List.mem_of_getElem? (i := 675) (by decide +kernel)) rfl
theorem k_306 : (.instanceMethod ⟨"RulePayrollModel", "slips", "(I)I"⟩ : Cond) ∈ mm_GW := mm_in (List.mem_of_getElem? (i := 677) (by decide +kernel)) rfl
theorem k_307 : (.selects "RulePayrollModel" ⟨"RulePayrollModel", "slips", "(I)I"⟩ ⟨"RulePayrollModel", "slips", "(I)I"⟩ : Cond) ∈ mm_GW := mm_in (List.mem_of_getElem? (i := 30) (by decide +kernel)) rfl
end
section
/-! MEMORY of a fixed layout: cells by tags; what they hold is two functions: ints I tag place, longs L tag place; references stay as they are -/
abbrev mm_Kd : Type := Unit ⊕ Unit ⊕ Option Nat
abbrev mm_Sh : Type := (Nat × Nat × (Unit ⊕ Unit ⊕ (Nat → Option Nat))) ⊕ (Nat × List mm_Kd)
abbrev mm_I : Type := Nat → Nat → Int32
abbrev mm_L : Type := Nat → Nat → Int64
def mm_val (ad : Nat → Nat) (f : Nat → Int32) (g : Nat → Int64) (k : Nat) (d : mm_Kd) : Value := match d with
  | .inl _ => .int (f k)
  | .inr (.inl _) => .long (g k)
  | .inr (.inr r) => va_rf (r.map ad)
def mm_fl (ad : Nat → Nat) (f : Nat → Int32) (g : Nat → Int64) : Nat → List mm_Kd → List Value
  | _, [] => []
  | n, d :: ds => mm_val ad f g n d :: mm_fl ad f g (n + 1) ds
def mm_cell (tc : Nat → ClassId) (ad : Nat → Nat) (f : Nat → Int32) (g : Nat → Int64) (sh : mm_Sh) : va_E := match sh with
  | .inl (ti, n, .inl _) => .inl (tc ti, n, .inl f)
  | .inl (ti, n, .inr (.inl _)) => .inl (tc ti, n, .inr (.inl g))
  | .inl (ti, n, .inr (.inr r)) => .inl (tc ti, n, .inr (.inr (.inr (.inr (fun j => (r j).map ad)))))
  | .inr (ci, ds) => .inr (ci, mm_fl ad f g 0 ds)
def mm_wl (N : Nat) (tc : Nat → ClassId) (ad : Nat → Nat) (lay : Nat → mm_Sh) (I : mm_I) (L : mm_L) : va_W := (List.range N).map fun t => (ad t, mm_cell tc ad (I t) (L t) (lay t))
def mm_uI (I : mm_I) (t k : Nat) (v : Int32) : mm_I := va_up I t (upd (I t) k v)
def mm_uL (L : mm_L) (t k : Nat) (v : Int64) : mm_L := va_up L t (vp_updL (L t) k v)
theorem mm_uI_at (I : mm_I) (t k : Nat) (v : Int32) : mm_uI I t k v t = upd (I t) k v := if_pos rfl
theorem mm_uL_at (L : mm_L) (t k : Nat) (v : Int64) : mm_uL L t k v t = vp_updL (L t) k v := if_pos rfl
theorem mm_uI_ne (I : mm_I) {t t' : Nat} (k : Nat) (v : Int32) (h : t' ≠ t) : mm_uI I t k v t' = I t' := if_neg h
theorem mm_uL_ne (L : mm_L) {t t' : Nat} (k : Nat) (v : Int64) (h : t' ≠ t) : mm_uL L t k v t' = L t' := if_neg h
theorem mm_fl_get (ad : Nat → Nat) (f : Nat → Int32) (g : Nat → Int64) : ∀ (ds : List mm_Kd) (n k : Nat), (mm_fl ad f g n ds)[k]? = (ds[k]?).map (mm_val ad f g (n + k))
  | [], _, _ => rfl
  | _ :: _, _, 0 => rfl
  | _ :: ds, n, k + 1 => by
    have h := mm_fl_get ad f g ds (n + 1) k
    rw [show n + (k + 1) = n + 1 + k by omega]
    exact h
theorem mm_fl_len (ad : Nat → Nat) (f : Nat → Int32) (g : Nat → Int64) : ∀ (ds : List mm_Kd) (n : Nat), (mm_fl ad f g n ds).length = ds.length
  | [], _ => rfl
  | _ :: ds, n => by
    show (mm_fl ad f g (n + 1) ds).length + 1 = ds.length + 1
    rw [mm_fl_len ad f g ds (n + 1)]
theorem mm_fl_eq {ad : Nat → Nat} {f f' : Nat → Int32} {g g' : Nat → Int64} : ∀ (ds : List mm_Kd) (n : Nat), (∀ k, n ≤ k → f k = f' k) → (∀ k, n ≤ k → g k = g' k) → mm_fl ad f g n ds = mm_fl ad f' g' n ds
  | [], _, _, _ => rfl
  | d :: ds, n, h, h2 => by
    show mm_val ad f g n d :: mm_fl ad f g (n + 1) ds = mm_val ad f' g' n d :: mm_fl ad f' g' (n + 1) ds
    rw [mm_fl_eq ds (n + 1) (fun k hk => h k (by omega)) (fun k hk => h2 k (by omega))]
    congr 1
    rcases d with d | d | d
    · show Value.int (f n) = Value.int (f' n)
      rw [h n (Nat.le_refl n)]
    · show Value.long (g n) = Value.long (g' n)
      rw [h2 n (Nat.le_refl n)]
    · rfl
theorem mm_fl_setI (ad : Nat → Nat) (f : Nat → Int32) (g : Nat → Int64) (v : Int32) : ∀ (ds : List mm_Kd) (n k : Nat), ds[k]? = some (.inl ()) → (mm_fl ad f g n ds).set k (.int v) = mm_fl ad (upd f (n + k) v) g n ds
  | [], _, _, h => by simp at h
  | d :: ds, n, 0, h => by
    have hd : d = .inl () := by simpa using h
    subst hd
    show Value.int v :: mm_fl ad f g (n + 1) ds = Value.int (upd f (n + 0) v n) :: mm_fl ad (upd f (n + 0) v) g (n + 1) ds
    rw [mm_fl_eq (f := f) (f' := upd f (n + 0) v) (g := g) (g' := g) ds (n + 1) (fun k hk => by simp [upd, show k ≠ n by omega]) (fun _ _ => rfl)]
    simp [upd]
  | d :: ds, n, k + 1, h => by
    have h' : ds[k]? = some (.inl ()) := by simpa using h
    show mm_val ad f g n d :: (mm_fl ad f g (n + 1) ds).set k (.int v) = mm_val ad (upd f (n + (k + 1)) v) g n d :: mm_fl ad (upd f (n + (k + 1)) v) g (n + 1) ds
    rw [mm_fl_setI ad f g v ds (n + 1) k h', show n + 1 + k = n + (k + 1) by omega]
    congr 1
    rcases d with d | d | d
    · show Value.int (f n) = Value.int (upd f (n + (k + 1)) v n)
      simp [upd]
    · rfl
    · rfl
theorem mm_fl_setL (ad : Nat → Nat) (f : Nat → Int32) (g : Nat → Int64) (v : Int64) : ∀ (ds : List mm_Kd) (n k : Nat), ds[k]? = some (.inr (.inl ())) → (mm_fl ad f g n ds).set k (.long v) = mm_fl ad f (vp_updL g (n + k) v) n ds
  | [], _, _, h => by simp at h
  | d :: ds, n, 0, h => by
    have hd : d = .inr (.inl ()) := by simpa using h
    subst hd
    show Value.long v :: mm_fl ad f g (n + 1) ds = Value.long (vp_updL g (n + 0) v n) :: mm_fl ad f (vp_updL g (n + 0) v) (n + 1) ds
    rw [mm_fl_eq (f := f) (f' := f) (g := g) (g' := vp_updL g (n + 0) v) ds (n + 1) (fun _ _ => rfl) (fun k hk => by simp [vp_updL, show k ≠ n by omega])]
    simp [vp_updL]
  | d :: ds, n, k + 1, h => by
    have h' : ds[k]? = some (.inr (.inl ())) := by simpa using h
    show mm_val ad f g n d :: (mm_fl ad f g (n + 1) ds).set k (.long v) = mm_val ad f (vp_updL g (n + (k + 1)) v) n d :: mm_fl ad f (vp_updL g (n + (k + 1)) v) (n + 1) ds
    rw [mm_fl_setL ad f g v ds (n + 1) k h', show n + 1 + k = n + (k + 1) by omega]
    congr 1
    rcases d with d | d | d
    · rfl
    · show Value.long (g n) = Value.long (vp_updL g (n + (k + 1)) v n)
      simp [vp_updL]
    · rfl
theorem mm_wl_at {N : Nat} {tc : Nat → ClassId} {ad : Nat → Nat} {lay : Nat → mm_Sh} {I : mm_I} {L : mm_L} {t : Nat} (ht : t < N) : (mm_wl N tc ad lay I L)[t]? = some (ad t, mm_cell tc ad (I t) (L t) (lay t)) := by
  simp [mm_wl, ht]
theorem mm_wl_set {N : Nat} {tc : Nat → ClassId} {ad : Nat → Nat} {lay : Nat → mm_Sh} {I I' : mm_I} {L L' : mm_L} {t : Nat} (ht : t < N) {x : va_E} (h1 : mm_cell tc ad (I' t) (L' t) (lay t) = x) (h2 : ∀ t', t' ≠ t → I' t' = I t') (h3 : ∀ t', t' ≠ t → L' t' = L t') : (mm_wl N tc ad lay I L).set t (ad t, x) = mm_wl N tc ad lay I' L' := by
  apply List.ext_getElem?
  intro i
  by_cases hi : i = t
  · subst hi
    rw [List.getElem?_set_self (by simp [mm_wl, ht]), mm_wl_at ht, h1]
  · rw [List.getElem?_set_ne (Ne.symm hi)]
    by_cases hN : i < N
    · rw [mm_wl_at hN, mm_wl_at hN, h2 i hi, h3 i hi]
    · rw [List.getElem?_eq_none (by simp [mm_wl]; omega), List.getElem?_eq_none (by simp [mm_wl]; omega)]
theorem mm_D_any {N : Nat} {tc : Nat → ClassId} {ad : Nat → Nat} {lay : Nat → mm_Sh} {I I' : mm_I} {L L' : mm_L} {A : Nat → Prop} (h : va_D A (mm_wl N tc ad lay I L)) : va_D A (mm_wl N tc ad lay I' L') := by
  have len : ∀ (J : mm_I) (M : mm_L) (i : Nat) (q : Nat × va_E), (mm_wl N tc ad lay J M)[i]? = some q → i < N ∧ q.1 = ad i := by
    intro J M i q hq
    have hi : i < N := by
      have := (List.getElem?_eq_some_iff.mp hq).1
      simpa [mm_wl] using this
    rw [mm_wl_at hi] at hq
    cases hq
    exact ⟨hi, rfl⟩
  refine ⟨fun i j p q hp hq e => ?_, fun k q hq => ?_⟩
  · obtain ⟨hi, e1⟩ := len _ _ _ _ hp
    obtain ⟨hj, e2⟩ := len _ _ _ _ hq
    exact h.1 i j _ _ (mm_wl_at hi) (mm_wl_at hj) (by show ad i = ad j; rw [← e1, ← e2, e])
  · obtain ⟨hi, e1⟩ := len _ _ _ _ hq
    rw [e1]
    exact h.2 k _ (mm_wl_at hi)
section MMW
variable {p : Program} {l : Launch} {e : Env} {R : Room} {s : State} {m : MethodId} {args : Array Value} {below : List Frame} {meth : Method} {c : Code} {H H0 : Heap} {locs : List Loc} {cells slots : Nat} {Q : State → Prop}
variable {cc : ByteArray} {pc : Nat} {ls : Array Slot} {rest : List Value} {D : va_G} {cl : List vw_C} {tys : List (ClassId × FieldType)} {A : Nat → Prop}
variable {N : Nat} {tc : Nat → ClassId} {ad : Nat → Nat} {lay : Nat → mm_Sh} {I : mm_I} {L : mm_L}
theorem mm_gi (hexec : p.tables.exec = Jvm.exec) (hb : c.code = cc) {own ref C : String} {T : u_T} {N0 ci index : Nat} {Ts : List Cond} (hts : ∀ w ∈ Ts, w.before args s = true) (hin : ∀ w ∈ u_ws C T N0, w ∈ Ts) (hown : s.vm.findClass own = some m.cls) (hK : va_K D cl tys s) (hP : va_P D cl (mm_wl N tc ad lay I L) H) {t : Nat} (ht : t < N) {ds : List mm_Kd} (hl : lay t = .inr (ci, ds)) (hc : cl[ci]? = some (C, T, N0)) (k : Nat) (hk : k < N0) (hlink : (Cond.fieldLink own index ref (T k).2.1 (T k).2.2.1).before args s = true) (hsame : ∀ x, s.fieldFound? (T k).1 (T k).2.1 (T k).2.2.1 = some x → s.fieldFound? ref (T k).2.1 (T k).2.2.1 = some x) (hd : ds[k]? = some (.inl ())) (hdg : decode cc pc = .ok (.getfield index, 3))
    (kk : W p l e R s m args below meth c H locs cells slots Q (F0 m (pc + 3) ls (.int (I t k) :: rest))) : W p l e R s m args below meth c H locs cells slots Q (F0 m pc ls (.ref (ad t) :: rest)) :=
  va_get hexec hb hts hin hown hK hP t (fs := mm_fl ad (I t) (L t) 0 ds) (by rw [mm_wl_at ht, hl]; rfl) hc k hk hlink hsame (v := .int (I t k)) (by rw [mm_fl_get, hd]; simp [mm_val]) hdg kk
theorem mm_gl (hexec : p.tables.exec = Jvm.exec) (hb : c.code = cc) {own ref C : String} {T : u_T} {N0 ci index : Nat} {Ts : List Cond} (hts : ∀ w ∈ Ts, w.before args s = true) (hin : ∀ w ∈ u_ws C T N0, w ∈ Ts) (hown : s.vm.findClass own = some m.cls) (hK : va_K D cl tys s) (hP : va_P D cl (mm_wl N tc ad lay I L) H) {t : Nat} (ht : t < N) {ds : List mm_Kd} (hl : lay t = .inr (ci, ds)) (hc : cl[ci]? = some (C, T, N0)) (k : Nat) (hk : k < N0) (hlink : (Cond.fieldLink own index ref (T k).2.1 (T k).2.2.1).before args s = true) (hsame : ∀ x, s.fieldFound? (T k).1 (T k).2.1 (T k).2.2.1 = some x → s.fieldFound? ref (T k).2.1 (T k).2.2.1 = some x) (hd : ds[k]? = some (.inr (.inl ()))) (hdg : decode cc pc = .ok (.getfield index, 3))
    (kk : W p l e R s m args below meth c H locs cells slots Q (F0 m (pc + 3) ls (.long (L t k) :: rest))) : W p l e R s m args below meth c H locs cells slots Q (F0 m pc ls (.ref (ad t) :: rest)) :=
  va_get hexec hb hts hin hown hK hP t (fs := mm_fl ad (I t) (L t) 0 ds) (by rw [mm_wl_at ht, hl]; rfl) hc k hk hlink hsame (v := .long (L t k)) (by rw [mm_fl_get, hd]; simp [mm_val]) hdg kk
theorem mm_gr (hexec : p.tables.exec = Jvm.exec) (hb : c.code = cc) {own ref C : String} {T : u_T} {N0 ci index : Nat} {Ts : List Cond} (hts : ∀ w ∈ Ts, w.before args s = true) (hin : ∀ w ∈ u_ws C T N0, w ∈ Ts) (hown : s.vm.findClass own = some m.cls) (hK : va_K D cl tys s) (hP : va_P D cl (mm_wl N tc ad lay I L) H) {t : Nat} (ht : t < N) {ds : List mm_Kd} (hl : lay t = .inr (ci, ds)) (hc : cl[ci]? = some (C, T, N0)) (k : Nat) (hk : k < N0) (hlink : (Cond.fieldLink own index ref (T k).2.1 (T k).2.2.1).before args s = true) (hsame : ∀ x, s.fieldFound? (T k).1 (T k).2.1 (T k).2.2.1 = some x → s.fieldFound? ref (T k).2.1 (T k).2.2.1 = some x) {r : Nat} (hd : ds[k]? = some (.inr (.inr (some r)))) (hdg : decode cc pc = .ok (.getfield index, 3))
    (kk : W p l e R s m args below meth c H locs cells slots Q (F0 m (pc + 3) ls (.ref (ad r) :: rest))) : W p l e R s m args below meth c H locs cells slots Q (F0 m pc ls (.ref (ad t) :: rest)) :=
  va_get hexec hb hts hin hown hK hP t (fs := mm_fl ad (I t) (L t) 0 ds) (by rw [mm_wl_at ht, hl]; rfl) hc k hk hlink hsame (v := .ref (ad r)) (by rw [mm_fl_get, hd]; simp [mm_val, va_rf]) hdg kk
theorem mm_pi (hexec : p.tables.exec = Jvm.exec) (hb : c.code = cc) {own ref C : String} {T : u_T} {N0 ci index : Nat} {Ts : List Cond} (hts : ∀ w ∈ Ts, w.before args s = true) (hin : ∀ w ∈ u_ws C T N0, w ∈ Ts) (ty0 : Nat → FieldType) (hty : ∀ k, k < N0 → parseFieldDescriptor (T k).2.2.1 = some (ty0 k)) (hnm : ∀ a, a < N0 → ∀ b, b < N0 → a ≠ b → (T a).2.1 ≠ (T b).2.1) (hown : s.vm.findClass own = some m.cls) (hK : va_K D cl tys s) (hP : va_P D cl (mm_wl N tc ad lay I L) H) (hD : va_D A (mm_wl N tc ad lay I L)) (hS0 : va_S A H0 H locs) {t : Nat} (ht : t < N) {ds : List mm_Kd} (hl : lay t = .inr (ci, ds)) (hc : cl[ci]? = some (C, T, N0)) (k : Nat) (hk : k < N0) (hlink : (Cond.fieldLink own index ref (T k).2.1 (T k).2.2.1).before args s = true) (hsame : ∀ x, s.fieldFound? (T k).1 (T k).2.1 (T k).2.2.1 = some x → s.fieldFound? ref (T k).2.1 (T k).2.2.1 = some x) (hfin : (T k).2.2.2 = false) {ty : FieldType} {v : Int32} (hdy : parseFieldDescriptor (T k).2.2.1 = some ty) (hn : narrow ty (.int v) = .int v) (hfit : fits ty (.int v) = true) (hd : ds[k]? = some (.inl ())) (hdg : decode cc pc = .ok (.putfield index, 3))
    (kk : ∀ (H1 : Heap) (locs1 : List Loc), va_P D cl (mm_wl N tc ad lay (mm_uI I t k v) L) H1 → va_D A (mm_wl N tc ad lay (mm_uI I t k v) L) → va_S A H0 H1 locs1 → W p l e R s m args below meth c H1 locs1 cells slots Q (F0 m (pc + 3) ls rest)) : W p l e R s m args below meth c H locs cells slots Q (F0 m pc ls (.int v :: .ref (ad t) :: rest)) := by
  have hset : (mm_wl N tc ad lay I L).set t (ad t, .inr (ci, (mm_fl ad (I t) (L t) 0 ds).set k (.int v))) = mm_wl N tc ad lay (mm_uI I t k v) L := by
    refine mm_wl_set ht ?_ (fun t' h => mm_uI_ne I k v h) (fun _ _ => rfl)
    rw [hl, mm_uI_at, mm_fl_setI ad (I t) (L t) v ds 0 k hd, Nat.zero_add]
    rfl
  have hlen : k < (mm_fl ad (I t) (L t) 0 ds).length := by
    rw [mm_fl_len]
    exact (List.getElem?_eq_some_iff.mp hd).1
  refine va_put hexec hb hts hin ty0 hty hnm hown hK hP hD hS0 t (fs := mm_fl ad (I t) (L t) 0 ds) (by rw [mm_wl_at ht, hl]; rfl) hc k hk hlink hsame hfin hdy hn hfit hlen hdg (fun H1 locs1 h1 h2 h3 => kk H1 locs1 (by rw [← hset]; exact h1) (by rw [← hset]; exact h2) h3)
theorem mm_pl (hexec : p.tables.exec = Jvm.exec) (hb : c.code = cc) {own ref C : String} {T : u_T} {N0 ci index : Nat} {Ts : List Cond} (hts : ∀ w ∈ Ts, w.before args s = true) (hin : ∀ w ∈ u_ws C T N0, w ∈ Ts) (ty0 : Nat → FieldType) (hty : ∀ k, k < N0 → parseFieldDescriptor (T k).2.2.1 = some (ty0 k)) (hnm : ∀ a, a < N0 → ∀ b, b < N0 → a ≠ b → (T a).2.1 ≠ (T b).2.1) (hown : s.vm.findClass own = some m.cls) (hK : va_K D cl tys s) (hP : va_P D cl (mm_wl N tc ad lay I L) H) (hD : va_D A (mm_wl N tc ad lay I L)) (hS0 : va_S A H0 H locs) {t : Nat} (ht : t < N) {ds : List mm_Kd} (hl : lay t = .inr (ci, ds)) (hc : cl[ci]? = some (C, T, N0)) (k : Nat) (hk : k < N0) (hlink : (Cond.fieldLink own index ref (T k).2.1 (T k).2.2.1).before args s = true) (hsame : ∀ x, s.fieldFound? (T k).1 (T k).2.1 (T k).2.2.1 = some x → s.fieldFound? ref (T k).2.1 (T k).2.2.1 = some x) (hfin : (T k).2.2.2 = false) {v : Int64} (hdy : parseFieldDescriptor (T k).2.2.1 = some .long) (hd : ds[k]? = some (.inr (.inl ()))) (hdg : decode cc pc = .ok (.putfield index, 3))
    (kk : ∀ (H1 : Heap) (locs1 : List Loc), va_P D cl (mm_wl N tc ad lay I (mm_uL L t k v)) H1 → va_D A (mm_wl N tc ad lay I (mm_uL L t k v)) → va_S A H0 H1 locs1 → W p l e R s m args below meth c H1 locs1 cells slots Q (F0 m (pc + 3) ls rest)) : W p l e R s m args below meth c H locs cells slots Q (F0 m pc ls (.long v :: .ref (ad t) :: rest)) := by
  have hset : (mm_wl N tc ad lay I L).set t (ad t, .inr (ci, (mm_fl ad (I t) (L t) 0 ds).set k (.long v))) = mm_wl N tc ad lay I (mm_uL L t k v) := by
    refine mm_wl_set ht ?_ (fun _ _ => rfl) (fun t' h => mm_uL_ne L k v h)
    rw [hl, mm_uL_at, mm_fl_setL ad (I t) (L t) v ds 0 k hd, Nat.zero_add]
    rfl
  have hlen : k < (mm_fl ad (I t) (L t) 0 ds).length := by
    rw [mm_fl_len]
    exact (List.getElem?_eq_some_iff.mp hd).1
  refine va_put hexec hb hts hin ty0 hty hnm hown hK hP hD hS0 t (fs := mm_fl ad (I t) (L t) 0 ds) (by rw [mm_wl_at ht, hl]; rfl) hc k hk hlink hsame hfin hdy rfl rfl hlen hdg (fun H1 locs1 h1 h2 h3 => kk H1 locs1 (by rw [← hset]; exact h1) (by rw [← hset]; exact h2) h3)
theorem mm_iald (hexec : p.tables.exec = Jvm.exec) (hb : c.code = cc) (hK : va_K D cl tys s) (hP : va_P D cl (mm_wl N tc ad lay I L) H) {t ti n : Nat} {u : Unit} (ht : t < N) (hl : lay t = .inl (ti, n, .inl u)) (hty : tys[ti]? = some (tc ti, .int)) {i : Int32} (hin : vp_in i n) (hdg : decode cc pc = .ok (.iaload, 1))
    (kk : W p l e R s m args below meth c H locs cells slots Q (F0 m (pc + 1) ls (.int (I t i.toNatClampNeg) :: rest))) : W p l e R s m args below meth c H locs cells slots Q (F0 m pc ls (.int i :: .ref (ad t) :: rest)) :=
  va_iald hexec hb hK hP t ti (by rw [mm_wl_at ht, hl]; rfl) hty hin hdg kk
theorem mm_zald (hexec : p.tables.exec = Jvm.exec) (hb : c.code = cc) (hK : va_K D cl tys s) (hP : va_P D cl (mm_wl N tc ad lay I L) H) {t ti n : Nat} {u : Unit} (ht : t < N) (hl : lay t = .inl (ti, n, .inl u)) (hty : tys[ti]? = some (tc ti, .boolean)) {i : Int32} (hin : vp_in i n) (hdg : decode cc pc = .ok (.baload, 1))
    (kk : W p l e R s m args below meth c H locs cells slots Q (F0 m (pc + 1) ls (.int (I t i.toNatClampNeg) :: rest))) : W p l e R s m args below meth c H locs cells slots Q (F0 m pc ls (.int i :: .ref (ad t) :: rest)) :=
  va_zald hexec hb hK hP t ti (by rw [mm_wl_at ht, hl]; rfl) hty hin hdg kk
theorem mm_lald (hexec : p.tables.exec = Jvm.exec) (hb : c.code = cc) (hK : va_K D cl tys s) (hP : va_P D cl (mm_wl N tc ad lay I L) H) {t ti n : Nat} {u : Unit} (ht : t < N) (hl : lay t = .inl (ti, n, .inr (.inl u))) (hty : tys[ti]? = some (tc ti, .long)) {i : Int32} (hin : vp_in i n) (hdg : decode cc pc = .ok (.laload, 1))
    (kk : W p l e R s m args below meth c H locs cells slots Q (F0 m (pc + 1) ls (.long (L t i.toNatClampNeg) :: rest))) : W p l e R s m args below meth c H locs cells slots Q (F0 m pc ls (.int i :: .ref (ad t) :: rest)) :=
  va_lald hexec hb hK hP t ti (by rw [mm_wl_at ht, hl]; rfl) hty hin hdg kk
theorem mm_aald (hexec : p.tables.exec = Jvm.exec) (hb : c.code = cc) (hK : va_K D cl tys s) (hP : va_P D cl (mm_wl N tc ad lay I L) H) {t ti n : Nat} {f : Nat → Option Nat} {C : String} (ht : t < N) (hl : lay t = .inl (ti, n, .inr (.inr f))) (hty : tys[ti]? = some (tc ti, .object C)) {i : Int32} (hin : vp_in i n) {r : Nat} (hr : f i.toNatClampNeg = some r) (hdg : decode cc pc = .ok (.aaload, 1))
    (kk : W p l e R s m args below meth c H locs cells slots Q (F0 m (pc + 1) ls (.ref (ad r) :: rest))) : W p l e R s m args below meth c H locs cells slots Q (F0 m pc ls (.int i :: .ref (ad t) :: rest)) :=
  va_aldq hexec hb hK hP t ti (f := fun j => (f j).map ad) (by rw [mm_wl_at ht, hl]; rfl) hty hin hdg (by rw [hr]; exact kk)
theorem mm_iast (hexec : p.tables.exec = Jvm.exec) (hb : c.code = cc) (hK : va_K D cl tys s) (hP : va_P D cl (mm_wl N tc ad lay I L) H) (hD : va_D A (mm_wl N tc ad lay I L)) (hS : va_S A H0 H locs) {t ti n : Nat} {u : Unit} (ht : t < N) (hl : lay t = .inl (ti, n, .inl u)) (hty : tys[ti]? = some (tc ti, .int)) {i x : Int32} (hin : vp_in i n) (hdg : decode cc pc = .ok (.iastore, 1))
    (kk : ∀ (H1 : Heap) (locs1 : List Loc), va_P D cl (mm_wl N tc ad lay (mm_uI I t i.toNatClampNeg x) L) H1 → va_D A (mm_wl N tc ad lay (mm_uI I t i.toNatClampNeg x) L) → va_S A H0 H1 locs1 → W p l e R s m args below meth c H1 locs1 cells slots Q (F0 m (pc + 1) ls rest)) : W p l e R s m args below meth c H locs cells slots Q (F0 m pc ls (.int x :: .int i :: .ref (ad t) :: rest)) := by
  have hset : (mm_wl N tc ad lay I L).set t (ad t, .inl (tc ti, n, .inl (upd (I t) i.toNatClampNeg x))) = mm_wl N tc ad lay (mm_uI I t i.toNatClampNeg x) L := by
    refine mm_wl_set ht ?_ (fun t' h => mm_uI_ne I _ x h) (fun _ _ => rfl)
    rw [hl, mm_uI_at]
    rfl
  exact va_iast hexec hb hK hP hD hS t ti (by rw [mm_wl_at ht, hl]; rfl) hty hin hdg (fun H1 locs1 h1 h2 h3 => kk H1 locs1 (by rw [← hset]; exact h1) (by rw [← hset]; exact h2) h3)
theorem mm_zast (hexec : p.tables.exec = Jvm.exec) (hb : c.code = cc) (hK : va_K D cl tys s) (hP : va_P D cl (mm_wl N tc ad lay I L) H) (hD : va_D A (mm_wl N tc ad lay I L)) (hS : va_S A H0 H locs) {t ti n : Nat} {u : Unit} (ht : t < N) (hl : lay t = .inl (ti, n, .inl u)) (hty : tys[ti]? = some (tc ti, .boolean)) {i x : Int32} (hin : vp_in i n) (hdg : decode cc pc = .ok (.bastore, 1))
    (kk : ∀ (H1 : Heap) (locs1 : List Loc), va_P D cl (mm_wl N tc ad lay (mm_uI I t i.toNatClampNeg (vp_nar .boolean x)) L) H1 → va_D A (mm_wl N tc ad lay (mm_uI I t i.toNatClampNeg (vp_nar .boolean x)) L) → va_S A H0 H1 locs1 → W p l e R s m args below meth c H1 locs1 cells slots Q (F0 m (pc + 1) ls rest)) : W p l e R s m args below meth c H locs cells slots Q (F0 m pc ls (.int x :: .int i :: .ref (ad t) :: rest)) := by
  have hset : (mm_wl N tc ad lay I L).set t (ad t, .inl (tc ti, n, .inl (upd (I t) i.toNatClampNeg (vp_nar .boolean x)))) = mm_wl N tc ad lay (mm_uI I t i.toNatClampNeg (vp_nar .boolean x)) L := by
    refine mm_wl_set ht ?_ (fun t' h => mm_uI_ne I _ _ h) (fun _ _ => rfl)
    rw [hl, mm_uI_at]
    rfl
  exact va_zast hexec hb hK hP hD hS t ti (by rw [mm_wl_at ht, hl]; rfl) hty hin hdg (fun H1 locs1 h1 h2 h3 => kk H1 locs1 (by rw [← hset]; exact h1) (by rw [← hset]; exact h2) h3)
theorem mm_last (hexec : p.tables.exec = Jvm.exec) (hb : c.code = cc) (hK : va_K D cl tys s) (hP : va_P D cl (mm_wl N tc ad lay I L) H) (hD : va_D A (mm_wl N tc ad lay I L)) (hS : va_S A H0 H locs) {t ti n : Nat} {u : Unit} (ht : t < N) (hl : lay t = .inl (ti, n, .inr (.inl u))) (hty : tys[ti]? = some (tc ti, .long)) {i : Int32} {x : Int64} (hin : vp_in i n) (hdg : decode cc pc = .ok (.lastore, 1))
    (kk : ∀ (H1 : Heap) (locs1 : List Loc), va_P D cl (mm_wl N tc ad lay I (mm_uL L t i.toNatClampNeg x)) H1 → va_D A (mm_wl N tc ad lay I (mm_uL L t i.toNatClampNeg x)) → va_S A H0 H1 locs1 → W p l e R s m args below meth c H1 locs1 cells slots Q (F0 m (pc + 1) ls rest)) : W p l e R s m args below meth c H locs cells slots Q (F0 m pc ls (.long x :: .int i :: .ref (ad t) :: rest)) := by
  have hset : (mm_wl N tc ad lay I L).set t (ad t, .inl (tc ti, n, .inr (.inl (vp_updL (L t) i.toNatClampNeg x)))) = mm_wl N tc ad lay I (mm_uL L t i.toNatClampNeg x) := by
    refine mm_wl_set ht ?_ (fun _ _ => rfl) (fun t' h => mm_uL_ne L _ x h)
    rw [hl, mm_uL_at]
    rfl
  exact va_last hexec hb hK hP hD hS t ti (by rw [mm_wl_at ht, hl]; rfl) hty hin hdg (fun H1 locs1 h1 h2 h3 => kk H1 locs1 (by rw [← hset]; exact h1) (by rw [← hset]; exact h2) h3)
theorem mm_alen (hexec : p.tables.exec = Jvm.exec) (hb : c.code = cc) (hK : va_K D cl tys s) (hP : va_P D cl (mm_wl N tc ad lay I L) H) {t ti n : Nat} {z : Unit ⊕ Unit ⊕ (Nat → Option Nat)} (ht : t < N) (hl : lay t = .inl (ti, n, z)) {ty : FieldType} (hty : tys[ti]? = some (tc ti, ty)) {v : Int32} (hv : Int32.ofNat n = v) (hdg : decode cc pc = .ok (.arraylength, 1))
    (kk : W p l e R s m args below meth c H locs cells slots Q (F0 m (pc + 1) ls (.int v :: rest))) : W p l e R s m args below meth c H locs cells slots Q (F0 m pc ls (.ref (ad t) :: rest)) := by
  rcases z with z | z | z
  · exact va_alen hexec hb hK hP t ti (x := (n, .inl (I t))) (by rw [mm_wl_at ht, hl]; rfl) hty hv hdg kk
  · exact va_alen hexec hb hK hP t ti (x := (n, .inr (.inl (L t)))) (by rw [mm_wl_at ht, hl]; rfl) hty hv hdg kk
  · exact va_alen hexec hb hK hP t ti (x := (n, .inr (.inr (.inr (.inr (fun j => (z j).map ad)))))) (by rw [mm_wl_at ht, hl]; rfl) hty hv hdg kk
end MMW
/-- a switch: out of its places lo .. hi - 1, or one of them -/
theorem mm_sw (x : Int32) (lo hi : Nat) : (x.toInt < (lo : Int) ∨ (hi : Int) ≤ x.toInt) ∨ ∃ k : Nat, (lo ≤ k ∧ k < hi) ∧ x = nI k := by
  by_cases h0 : x.toInt < (lo : Int)
  · exact Or.inl (Or.inl h0)
  · by_cases h1 : (hi : Int) ≤ x.toInt
    · exact Or.inl (Or.inr h1)
    · refine Or.inr ⟨x.toInt.toNat, by omega, ?_⟩
      apply Int32.toInt_inj.mp
      have hb : x.toInt < 2 ^ 31 := Int32.toInt_lt x
      rw [nI_toInt (by omega)]
      omega
theorem mm_RA_inj {U : State} {cA cB : ClassId} {ty : FieldType} (h1 : va_RA U cA ty) (h2 : va_RA U cB ty) : cA = cB := by
  cases ty with
  | object C =>
    obtain ⟨_, _, _, _, _, a⟩ := h1
    obtain ⟨_, _, _, _, _, b⟩ := h2
    exact Option.some.inj (a.symm.trans b)
  | _ => exact Option.some.inj (Eq.trans (Eq.symm h1) h2)
theorem mm_arr0i (cA : ClassId) (n : Nat) : vp_cell cA (n, .inl (fun _ => 0)) = arrV cA n (fun _ => defaultValue .int) := rfl
theorem mm_arr0z (cA : ClassId) (n : Nat) : vp_cell cA (n, .inl (fun _ => 0)) = arrV cA n (fun _ => defaultValue .boolean) := rfl
theorem mm_arr0l (cA : ClassId) (n : Nat) : vp_cell cA (n, .inr (.inl (fun _ => 0))) = arrV cA n (fun _ => defaultValue .long) := rfl
section MMN
variable {p : Program} {l : Launch} {e : Env} {R : Room} {s : State} {m : MethodId} {args : Array Value} {below : List Frame} {meth : Method} {c : Code} {H H0 : Heap} {locs : List Loc} {cells slots : Nat} {Q : State → Prop}
variable {cc : ByteArray} {pc : Nat} {ls : Array Slot} {rest : List Value} {D : va_G} {cl : List vw_C} {tys : List (ClassId × FieldType)} {A : Nat → Prop} {tc : Nat → ClassId} {ws : va_W}
theorem mm_newa (hexec : p.tables.exec = Jvm.exec) (hb : c.code = cc) {atype : ArrayType} (harr : (Cond.arrayClass (newarray.typeOf atype)).before args s = true) {ty : FieldType} (hty : newarray.typeOf atype = ty) (hK : va_K D cl tys s) (hP : va_P D cl ws H) (hD : va_D A ws) (hS : va_S A H0 H locs) (hA : ∀ q, H0.size ≤ q → A q) {ti : Nat} (ht : tys[ti]? = some (tc ti, ty))
    {n : Int32} {N' : Nat} {a0 : vp_A} (ha : ∀ cA : ClassId, vp_cell cA a0 = arrV cA N' (fun _ => defaultValue ty)) (hn : ¬ n < 0) (hN : n.toNatClampNeg = N') (hbytes : N' * componentBytes ty ≤ 536870912) (hcells : cells + 1 ≤ R.cells) (hslots : slots + N' ≤ R.slots) (hdg : decode cc pc = .ok (.newarray atype, 2))
    (kk : ∀ (q : Nat) (H1 : Heap), va_P D cl (ws ++ [(q, .inl (tc ti, a0))]) H1 → va_D A (ws ++ [(q, .inl (tc ti, a0))]) → va_S A H0 H1 locs →
      W p l e R s m args below meth c H1 locs (cells + 1) (slots + N') Q (F0 m (pc + 2) ls (.ref q :: rest))) : W p l e R s m args below meth c H locs cells slots Q (F0 m pc ls (.int n :: rest)) := by
  refine va_newa hexec hb harr hty hK hP hD hS hA ha hn hN hbytes hcells hslots hdg (fun q cA H1 hK1 hP1 hD1 hS1 => ?_)
  have e1 : cA = tc ti := mm_RA_inj (hK1.2 tys.length (cA, ty) (by simp)).2 (hK.2 ti _ ht).2
  subst e1
  exact kk q H1 hP1 hD1 hS1
theorem mm_newq (hexec : p.tables.exec = Jvm.exec) (hb : c.code = cc) {own C : String} {index : Nat} (hown : s.vm.findClass own = some m.cls) (hclink : (Cond.classLink own index C).before args s = true) (hover : va_AO C s) (hK : va_K D cl tys s) (hP : va_P D cl ws H) (hD : va_D A ws) (hS : va_S A H0 H locs) (hA : ∀ q, H0.size ≤ q → A q) {ti : Nat} (ht : tys[ti]? = some (tc ti, .object C))
    {n : Int32} {N' : Nat} (hn : ¬ n < 0) (hN : n.toNatClampNeg = N') (hbytes : N' * 4 ≤ 536870912) (hcells : cells + 1 ≤ R.cells) (hslots : slots + N' ≤ R.slots) (hdg : decode cc pc = .ok (.anewarray index, 3))
    (kk : ∀ (q : Nat) (H1 : Heap), va_P D cl (ws ++ [(q, .inl (tc ti, N', .inr (.inr (.inr (.inr (fun _ => none))))))]) H1 → va_D A (ws ++ [(q, .inl (tc ti, N', .inr (.inr (.inr (.inr (fun _ => none))))))]) → va_S A H0 H1 locs →
      W p l e R s m args below meth c H1 locs (cells + 1) (slots + N') Q (F0 m (pc + 3) ls (.ref q :: rest))) : W p l e R s m args below meth c H locs cells slots Q (F0 m pc ls (.int n :: rest)) := by
  refine va_newq hexec hb hown hclink hover hK hP hD hS hA hn hN hbytes hcells hslots hdg (fun q cA H1 hK1 hP1 hD1 hS1 => ?_)
  have e1 : cA = tc ti := mm_RA_inj (hK1.2 tys.length (cA, .object C) (by simp)).2 (hK.2 ti _ ht).2
  subst e1
  exact kk q H1 hP1 hD1 hS1
end MMN
end
section
abbrev mtys (tc : Nat → ClassId) : List (ClassId × FieldType) := [(tc 0, .int), (tc 1, .long), (tc 2, .boolean), (tc 3, .object "RulePayroll$Person"), (tc 4, .object "RulePayroll$Table")]
def mm_layL : List mm_Sh := [.inr (5, [.inr (.inr (some 1)), .inr (.inr (some 13)), .inr (.inr (some 14))]), .inr (2, [.inr (.inr (some 2)), .inr (.inr (some 10)), .inr (.inr (some 11)), .inr (.inr (some 12))]), .inr (0, [.inr (.inr (some 3)), .inr (.inr (some 4)), .inr (.inr (some 5)), .inr (.inr (some 6)), .inr (.inr (some 7)), .inr (.inr (some 8)), .inr (.inr (some 9)), .inl ()]), .inl (0, 70, .inl ()), .inl (0, 70, .inl ()), .inl (0, 70, .inl ()), .inl (0, 70, .inl ()), .inl (0, 70, .inl ()), .inl (0, 70, .inl ()), .inl (0, 70, .inl ()), .inl (0, 8, .inl ()), .inl (4, 2, .inr (.inr (fun j => some (18 + j)))), .inl (1, 70, .inr (.inl ())), .inl (3, 6, .inr (.inr (fun j => some (24 + j)))), .inr (3, [.inr (.inr (some 15)), .inr (.inr (some 16)), .inr (.inr (some 17)), .inl ()]), .inl (1, 288, .inr (.inl ())), .inl (0, 96, .inl ()), .inl (2, 16, .inl ()), .inr (4, [.inr (.inr (some 20)), .inr (.inr (some 22)), .inl ()]), .inr (4, [.inr (.inr (some 21)), .inr (.inr (some 23)), .inl ()]), .inl (0, 5, .inl ()), .inl (0, 5, .inl ()), .inl (0, 5, .inl ()), .inl (0, 5, .inl ()), .inr (1, [.inr (.inr (some 30)), .inr (.inl ()), .inr (.inl ()), .inl ()]), .inr (1, [.inr (.inr (some 31)), .inr (.inl ()), .inr (.inl ()), .inl ()]), .inr (1, [.inr (.inr (some 32)), .inr (.inl ()), .inr (.inl ()), .inl ()]), .inr (1, [.inr (.inr (some 33)), .inr (.inl ()), .inr (.inl ()), .inl ()]), .inr (1, [.inr (.inr (some 34)), .inr (.inl ()), .inr (.inl ()), .inl ()]), .inr (1, [.inr (.inr (some 35)), .inr (.inl ()), .inr (.inl ()), .inl ()]), .inl (0, 8, .inl ()), .inl (0, 8, .inl ()), .inl (0, 8, .inl ()), .inl (0, 8, .inl ()), .inl (0, 8, .inl ()), .inl (0, 8, .inl ()), .inr (6, [.inl (), .inl (), .inr (.inr (some 37)), .inr (.inr (some 38)), .inr (.inr (some 39)), .inr (.inr (some 40)), .inr (.inr (some 41)), .inr (.inr (some 42)), .inr (.inr (some 43)), .inr (.inr (some 44)), .inr (.inr (some 45)), .inr (.inr (some 46)), .inr (.inr (some 47)), .inr (.inr (some 48)), .inr (.inr (some 49)), .inr (.inr (some 50)), .inr (.inr (some 51)), .inr (.inr (some 52)), .inr (.inr (some 53)), .inr (.inr (some 54)), .inr (.inr (some 55))]), .inl (0, 70, .inl ()), .inl (0, 70, .inl ()), .inl (0, 70, .inl ()), .inl (0, 70, .inl ()), .inl (0, 70, .inl ()), .inl (0, 70, .inl ()), .inl (0, 8, .inl ()), .inl (0, 2, .inl ()), .inl (0, 10, .inl ()), .inl (0, 10, .inl ()), .inl (0, 48, .inl ()), .inl (2, 6, .inl ()), .inl (2, 16, .inl ()), .inl (2, 96, .inl ()), .inl (0, 96, .inl ()), .inl (1, 288, .inr (.inl ())), .inl (1, 12, .inr (.inl ())), .inl (1, 70, .inr (.inl ())), .inl (1, 8, .inr (.inl ()))]
def mm_lay (t : Nat) : mm_Sh := mm_layL.getD t (.inr (0, []))
abbrev mm_N : Nat := 56
theorem ly_N_TB {p : Nat} (hp : p < 2) : 18 + p < mm_N := by show 18 + p < 56; omega
theorem ly_TB {p : Nat} (hp : p < 2) : mm_lay (18 + p) = .inr (4, [.inr (.inr (some (20 + p))), .inr (.inr (some (22 + p))), .inl ()]) := by
  obtain rfl | rfl : p = 0 ∨ p = 1 := by omega
  · rfl
  · rfl
theorem ly_N_LIM {p : Nat} (hp : p < 2) : 20 + p < mm_N := by show 20 + p < 56; omega
theorem ly_LIM {p : Nat} (hp : p < 2) : mm_lay (20 + p) = .inl (0, 5, .inl ()) := by
  obtain rfl | rfl : p = 0 ∨ p = 1 := by omega
  · rfl
  · rfl
theorem ly_N_RAT {p : Nat} (hp : p < 2) : 22 + p < mm_N := by show 22 + p < 56; omega
theorem ly_RAT {p : Nat} (hp : p < 2) : mm_lay (22 + p) = .inl (0, 5, .inl ()) := by
  obtain rfl | rfl : p = 0 ∨ p = 1 := by omega
  · rfl
  · rfl
theorem ly_N_PS {p : Nat} (hp : p < 6) : 24 + p < mm_N := by show 24 + p < 56; omega
theorem ly_PS {p : Nat} (hp : p < 6) : mm_lay (24 + p) = .inr (1, [.inr (.inr (some (30 + p))), .inr (.inl ()), .inr (.inl ()), .inl ()]) := by
  obtain rfl | rfl | rfl | rfl | rfl | rfl : p = 0 ∨ p = 1 ∨ p = 2 ∨ p = 3 ∨ p = 4 ∨ p = 5 := by omega
  · rfl
  · rfl
  · rfl
  · rfl
  · rfl
  · rfl
theorem ly_N_INP {p : Nat} (hp : p < 6) : 30 + p < mm_N := by show 30 + p < 56; omega
theorem ly_INP {p : Nat} (hp : p < 6) : mm_lay (30 + p) = .inl (0, 8, .inl ()) := by
  obtain rfl | rfl | rfl | rfl | rfl | rfl : p = 0 ∨ p = 1 ∨ p = 2 ∨ p = 3 ∨ p = 4 ∨ p = 5 := by omega
  · rfl
  · rfl
  · rfl
  · rfl
  · rfl
  · rfl
def zb (v : Int32) : Prop := v = 0 ∨ v = 1
theorem zb_n {v : Int32} (h : zb v) : narrow .boolean (.int v) = .int v := by rcases h with rfl | rfl <;> decide
theorem zb_f {v : Int32} (h : zb v) : fits .boolean (.int v) = true := by rcases h with rfl | rfl <;> decide
theorem mm_lt {i : Int32} {n : Nat} (h : vp_in i n) : i.toNatClampNeg < n := Nat.not_le.mp fun q => h (Or.inr q)
abbrev mm_G : Type := va_G × (Nat → ClassId) × (Nat → Nat) × (Nat → Prop) × (Nat → Nat)
abbrev mm_PW (G : mm_G) (I : mm_I) (L : mm_L) (H : Heap) : Prop := va_P G.1 vwCl (mm_wl mm_N G.2.1 G.2.2.1 mm_lay I L) H
abbrev mm_DW (G : mm_G) (I : mm_I) (L : mm_L) : Prop := va_D G.2.2.2.1 (mm_wl mm_N G.2.1 G.2.2.1 mm_lay I L)
def mm_nw (U : State) : Prop := va_Nw (.methodLinkNest "RulePayroll$Rules" 11 ⟨"RulePayroll$Nodes", "<init>", "()V"⟩ "RulePayroll") U ∧ va_Nw (.methodLinkNest "RulePayroll$Rules" 38 ⟨"RulePayroll$Table", "<init>", "()V"⟩ "RulePayroll") U ∧ va_Nw (.methodLinkNest "RulePayroll" 22 ⟨"RulePayroll$Person", "<init>", "()V"⟩ "RulePayroll") U ∧ va_Nw (.methodLinkNest "RulePayroll" 25 ⟨"RulePayroll$Runs", "<init>", "()V"⟩ "RulePayroll") U ∧ va_Nw (.methodLinkNest "RulePayroll$Nodes" 37 ⟨"RulePayroll", "within", "(II)Z"⟩ "RulePayroll") U ∧ va_Nw (.fieldLinkNest "RulePayroll$Nodes" 65 "RulePayroll" "NODE_OPERANDS" "[I" "RulePayroll") U ∧ va_Nw (.methodLinkNest "RulePayroll$Runs" 27 ⟨"RulePayroll", "within", "(II)Z"⟩ "RulePayroll") U ∧ va_AO "RulePayroll$Table" U ∧ va_AO "RulePayroll$Person" U
theorem nw_0 {U : State} (h : mm_nw U) : va_Nw (.methodLinkNest "RulePayroll$Rules" 11 ⟨"RulePayroll$Nodes", "<init>", "()V"⟩ "RulePayroll") U := h.1
theorem nw_1 {U : State} (h : mm_nw U) : va_Nw (.methodLinkNest "RulePayroll$Rules" 38 ⟨"RulePayroll$Table", "<init>", "()V"⟩ "RulePayroll") U := h.2.1
theorem nw_2 {U : State} (h : mm_nw U) : va_Nw (.methodLinkNest "RulePayroll" 22 ⟨"RulePayroll$Person", "<init>", "()V"⟩ "RulePayroll") U := h.2.2.1
theorem nw_3 {U : State} (h : mm_nw U) : va_Nw (.methodLinkNest "RulePayroll" 25 ⟨"RulePayroll$Runs", "<init>", "()V"⟩ "RulePayroll") U := h.2.2.2.1
theorem nw_4 {U : State} (h : mm_nw U) : va_Nw (.methodLinkNest "RulePayroll$Nodes" 37 ⟨"RulePayroll", "within", "(II)Z"⟩ "RulePayroll") U := h.2.2.2.2.1
theorem nw_5 {U : State} (h : mm_nw U) : va_Nw (.fieldLinkNest "RulePayroll$Nodes" 65 "RulePayroll" "NODE_OPERANDS" "[I" "RulePayroll") U := h.2.2.2.2.2.1
theorem nw_6 {U : State} (h : mm_nw U) : va_Nw (.methodLinkNest "RulePayroll$Runs" 27 ⟨"RulePayroll", "within", "(II)Z"⟩ "RulePayroll") U := h.2.2.2.2.2.2.1
theorem nw_7 {U : State} (h : mm_nw U) : va_AO "RulePayroll$Table" U := h.2.2.2.2.2.2.2.1
theorem nw_8 {U : State} (h : mm_nw U) : va_AO "RulePayroll$Person" U := h.2.2.2.2.2.2.2.2
theorem mm_nw_warm {s U : State} (hW : s.WarmedH U.vm) (h : mm_nw s) : mm_nw U := ⟨va_Nw.warmM hW (nw_0 h), va_Nw.warmM hW (nw_1 h), va_Nw.warmM hW (nw_2 h), va_Nw.warmM hW (nw_3 h), va_Nw.warmM hW (nw_4 h), va_Nw.warmF hW (nw_5 h), va_Nw.warmM hW (nw_6 h), va_AO.moved hW.alike (nw_7 h), va_AO.moved hW.alike (nw_8 h)⟩
theorem mm_nw_same {u U : State} (hvm : u.vm = U.vm) (h : mm_nw u) : mm_nw U := ⟨va_Nw.same rfl hvm (nw_0 h), va_Nw.same rfl hvm (nw_1 h), va_Nw.same rfl hvm (nw_2 h), va_Nw.same rfl hvm (nw_3 h), va_Nw.same rfl hvm (nw_4 h), va_Nw.same rfl hvm (nw_5 h), va_Nw.same rfl hvm (nw_6 h), va_AO.moved (hvm ▸ Vm.Alike.refl u.vm) (nw_7 h), va_AO.moved (hvm ▸ Vm.Alike.refl u.vm) (nw_8 h)⟩
def tb_no (j : Nat) : Int32 := ([0, 0, 0, 0, 3, 3, 3, 3, 3, 3, 3, 7, 1, 3, 3, 7, 0, 7, 3, 2] : List Int32).getD j 0
def mm_cs (G : mm_G) (U : State) (H : Heap) : Prop := va_Z "RulePayroll" "NODE_OPERANDS" "[I" (.ref (G.2.2.2.2 0)) G.2.2.2.1 U H ∧ va_T .int (G.2.2.2.2 0) 20 (fun j => .int (tb_no j)) G.2.2.2.1 U H ∧ mm_nw U
def mm_B (G : mm_G) (I : mm_I) (L : mm_L) (U : State) : Prop := mm_PW G I L U.heap ∧ va_K G.1 vwCl (mtys G.2.1) U ∧ mm_DW G I L ∧ mm_cs G U U.heap
abbrev mm_pre (G : mm_G) (av : List Value) (I : mm_I) (L : mm_L) : Array Value → State → Prop := va_Pc av (mm_B G I L)
abbrev mm_qi (G : mm_G) (Q : Int32 → mm_I → mm_L → Prop) : Array Value → State → Outcome → State → Prop := va_Qi (S := mm_I × mm_L) (fun r u => Q r u.1 u.2) (fun u t => mm_PW G u.1 u.2 t.heap) G.2.2.2.1
abbrev mm_ql (G : mm_G) (Q : Int64 → mm_I → mm_L → Prop) : Array Value → State → Outcome → State → Prop := va_Ql (S := mm_I × mm_L) (fun r u => Q r u.1 u.2) (fun u t => mm_PW G u.1 u.2 t.heap) G.2.2.2.1
abbrev mm_qv (G : mm_G) (Q : mm_I → mm_L → Prop) : Array Value → State → Outcome → State → Prop := va_Qv (S := mm_I × mm_L) (fun u => Q u.1 u.2) (fun u t => mm_PW G u.1 u.2 t.heap) G.2.2.2.1
def mm_cx (cc : ByteArray) (ret : Option FieldType) (nL : Nat) (own : String) (G : mm_G) (p : Program) (s : State) (m : MethodId) (args : Array Value) (meth : Method) (c : Code) : Prop := p.tables.exec = Jvm.exec ∧ c.code = cc ∧ meth.sig.returnType = ret ∧ meth.locks = false ∧ c.maxLocals = nL ∧ s.vm.findClass own = some m.cls ∧ (∀ w ∈ mm_GW, w.before args s = true) ∧ va_K G.1 vwCl (mtys G.2.1) s ∧ mm_cs G s s.heap
theorem mm_blind {G : mm_G} {av : List Value} {I : mm_I} {L : mm_L} : FrameBlind (mm_pre G av I L) := by
  intro a U g mk q
  obtain ⟨q0, qP, qK, qD, qZ, qT, qN⟩ := q
  exact ⟨q0, qP, va_K.moved (u := U) (U := U.calling g mk a) (Vm.Alike.refl U.vm) qK, qD, va_Z.moved (u := U) (U := U.calling g mk a) (Vm.Alike.refl U.vm) qZ, va_T.moved (u := U) (U := U.calling g mk a) (Vm.Alike.refl U.vm) qT, mm_nw_same rfl qN⟩
theorem mm_call {G : mm_G} {av : List Value} {I : mm_I} {L : mm_L} {s U : State} {H : Heap} {locs : List Loc} (hP : mm_PW G I L H) (hK : va_K G.1 vwCl (mtys G.2.1) s) (hD : mm_DW G I L) (hC : mm_cs G s s.heap) (hU : U.heap = H) (hS : va_S G.2.2.2.1 s.heap H locs) (hW : s.WarmedH U.vm) : mm_pre G av I L av.toArray U := by
  refine ⟨rfl, by rw [hU]; exact hP, va_K.moved hW.alike hK, hD, ?_, ?_, mm_nw_warm hW hC.2.2⟩
  · rw [hU]
    exact (va_Z.moved hW.alike hC.1).kept (fun a h1 h2 => hS.2.1 a h1 h2)
  · rw [hU]
    exact (va_T.moved hW.alike hC.2.1).kept (fun a h1 h2 => hS.2.1 a h1 h2)
theorem mm_recv {G : mm_G} {I : mm_I} {L : mm_L} {s : State} {H : Heap} {ci t : Nat} {ds : List mm_Kd} {q : vw_C} (hK : va_K G.1 vwCl (mtys G.2.1) s) (hP : mm_PW G I L H) (ht : t < mm_N) (hl : mm_lay t = .inr (ci, ds)) (hc : vwCl[ci]? = some q) : ∃ cell : Cell, H[G.2.2.1 t]? = some cell ∧ cell.vm.isStatics = false ∧ s.vm.findClass q.1 = some cell.cls :=
  va_recv hK hP hc (q0 := t) (fs := mm_fl G.2.2.1 (I t) (L t) 0 ds) (by rw [mm_wl_at ht, hl]; rfl)
end
