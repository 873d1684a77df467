section
-- ===== PART A: goes FIRST, ahead of the names: the tables' words, and 'selects' of the private methods out of them =====
/-- a private method of a class that the tables say can be made, by its rows of tables_1 -/
def lw_okq (q : MethodName × Nat) : Prop := (q.1.cls ≠ "java/lang/invoke/MethodHandle" ∧ q.1.cls ≠ "java/lang/invoke/VarHandle") ∧ Cond.instantiable q.1.cls q.2 ∈ tables_1 ∧ Cond.privateMethod q.1 ∈ tables_1 ∧ Cond.instanceMethod q.1 ∈ tables_1
theorem lw_p0 : lw_okq (⟨"RulePayroll$Nodes", "operandsFit", "(IIII)Z"⟩, 8) := ⟨⟨by decide +kernel, by decide +kernel⟩, List.mem_of_getElem? (i := 26) (by decide +kernel), List.mem_of_getElem? (i := 171) (by decide +kernel), List.mem_of_getElem? (i := 172) (by decide +kernel)⟩
theorem lw_p1 : lw_okq (⟨"RulePayroll$Nodes", "firstFits", "(II)Z"⟩, 8) := ⟨⟨by decide +kernel, by decide +kernel⟩, List.mem_of_getElem? (i := 26) (by decide +kernel), List.mem_of_getElem? (i := 175) (by decide +kernel), List.mem_of_getElem? (i := 176) (by decide +kernel)⟩
theorem lw_p2 : lw_okq (⟨"RulePayroll$Nodes", "levelOf", "(I)I"⟩, 8) := ⟨⟨by decide +kernel, by decide +kernel⟩, List.mem_of_getElem? (i := 26) (by decide +kernel), List.mem_of_getElem? (i := 188) (by decide +kernel), List.mem_of_getElem? (i := 189) (by decide +kernel)⟩
theorem lw_p3 : lw_okq (⟨"RulePayroll$Nodes", "rankOf", "(I)I"⟩, 8) := ⟨⟨by decide +kernel, by decide +kernel⟩, List.mem_of_getElem? (i := 26) (by decide +kernel), List.mem_of_getElem? (i := 195) (by decide +kernel), List.mem_of_getElem? (i := 196) (by decide +kernel)⟩
theorem lw_p4 : lw_okq (⟨"RulePayroll$Nodes", "putInOrder", "(I)V"⟩, 8) := ⟨⟨by decide +kernel, by decide +kernel⟩, List.mem_of_getElem? (i := 26) (by decide +kernel), List.mem_of_getElem? (i := 199) (by decide +kernel), List.mem_of_getElem? (i := 200) (by decide +kernel)⟩
theorem lw_p5 : lw_okq (⟨"RulePayroll$Rules", "workedOut", "(ILRulePayroll$Person;)J"⟩, 4) := ⟨⟨by decide +kernel, by decide +kernel⟩, List.mem_of_getElem? (i := 20) (by decide +kernel), List.mem_of_getElem? (i := 255) (by decide +kernel), List.mem_of_getElem? (i := 256) (by decide +kernel)⟩
theorem lw_p6 : lw_okq (⟨"RulePayroll$Rules", "workedOrEmpty", "(I)J"⟩, 4) := ⟨⟨by decide +kernel, by decide +kernel⟩, List.mem_of_getElem? (i := 20) (by decide +kernel), List.mem_of_getElem? (i := 263) (by decide +kernel), List.mem_of_getElem? (i := 264) (by decide +kernel)⟩
theorem lw_p7 : lw_okq (⟨"RulePayroll", "payAll", "(I)V"⟩, 3) := ⟨⟨by decide +kernel, by decide +kernel⟩, List.mem_of_getElem? (i := 12) (by decide +kernel), List.mem_of_getElem? (i := 327) (by decide +kernel), List.mem_of_getElem? (i := 328) (by decide +kernel)⟩
theorem lw_p8 : lw_okq (⟨"RulePayroll", "payOne", "(II)V"⟩, 3) := ⟨⟨by decide +kernel, by decide +kernel⟩, List.mem_of_getElem? (i := 12) (by decide +kernel), List.mem_of_getElem? (i := 347) (by decide +kernel), List.mem_of_getElem? (i := 348) (by decide +kernel)⟩
theorem lw_p9 : lw_okq (⟨"RulePayroll", "unpayAll", "(I)V"⟩, 3) := ⟨⟨by decide +kernel, by decide +kernel⟩, List.mem_of_getElem? (i := 12) (by decide +kernel), List.mem_of_getElem? (i := 380) (by decide +kernel), List.mem_of_getElem? (i := 381) (by decide +kernel)⟩
theorem lw_p10 : lw_okq (⟨"RulePayroll$Runs", "totalOfRun", "(II)J"⟩, 4) := ⟨⟨by decide +kernel, by decide +kernel⟩, List.mem_of_getElem? (i := 127) (by decide +kernel), List.mem_of_getElem? (i := 418) (by decide +kernel), List.mem_of_getElem? (i := 419) (by decide +kernel)⟩
theorem lw_p11 : lw_okq (⟨"RulePayroll", "howManyActive", "()I"⟩, 3) := ⟨⟨by decide +kernel, by decide +kernel⟩, List.mem_of_getElem? (i := 12) (by decide +kernel), List.mem_of_getElem? (i := 441) (by decide +kernel), List.mem_of_getElem? (i := 442) (by decide +kernel)⟩
theorem lw_p12 : lw_okq (⟨"RulePayrollModel", "fits", "(IIII)Z"⟩, 21) := ⟨⟨by decide +kernel, by decide +kernel⟩, List.mem_of_getElem? (i := 449) (by decide +kernel), List.mem_of_getElem? (i := 523) (by decide +kernel), List.mem_of_getElem? (i := 524) (by decide +kernel)⟩
theorem lw_p13 : lw_okq (⟨"RulePayrollModel", "out", "(III)Z"⟩, 21) := ⟨⟨by decide +kernel, by decide +kernel⟩, List.mem_of_getElem? (i := 449) (by decide +kernel), List.mem_of_getElem? (i := 527) (by decide +kernel), List.mem_of_getElem? (i := 528) (by decide +kernel)⟩
theorem lw_p14 : lw_okq (⟨"RulePayrollModel", "named", "(I)I"⟩, 21) := ⟨⟨by decide +kernel, by decide +kernel⟩, List.mem_of_getElem? (i := 449) (by decide +kernel), List.mem_of_getElem? (i := 531) (by decide +kernel), List.mem_of_getElem? (i := 532) (by decide +kernel)⟩
theorem lw_p15 : lw_okq (⟨"RulePayrollModel", "isNode", "(I)Z"⟩, 21) := ⟨⟨by decide +kernel, by decide +kernel⟩, List.mem_of_getElem? (i := 449) (by decide +kernel), List.mem_of_getElem? (i := 535) (by decide +kernel), List.mem_of_getElem? (i := 536) (by decide +kernel)⟩
def lw_privs_1 : List (MethodName × Nat) := [(⟨"RulePayroll$Nodes", "operandsFit", "(IIII)Z"⟩, 8), (⟨"RulePayroll$Nodes", "firstFits", "(II)Z"⟩, 8), (⟨"RulePayroll$Nodes", "levelOf", "(I)I"⟩, 8), (⟨"RulePayroll$Nodes", "rankOf", "(I)I"⟩, 8), (⟨"RulePayroll$Nodes", "putInOrder", "(I)V"⟩, 8), (⟨"RulePayroll$Rules", "workedOut", "(ILRulePayroll$Person;)J"⟩, 4), (⟨"RulePayroll$Rules", "workedOrEmpty", "(I)J"⟩, 4), (⟨"RulePayroll", "payAll", "(I)V"⟩, 3), (⟨"RulePayroll", "payOne", "(II)V"⟩, 3), (⟨"RulePayroll", "unpayAll", "(I)V"⟩, 3), (⟨"RulePayroll$Runs", "totalOfRun", "(II)J"⟩, 4), (⟨"RulePayroll", "howManyActive", "()I"⟩, 3), (⟨"RulePayrollModel", "fits", "(IIII)Z"⟩, 21), (⟨"RulePayrollModel", "out", "(III)Z"⟩, 21), (⟨"RulePayrollModel", "named", "(I)I"⟩, 21), (⟨"RulePayrollModel", "isNode", "(I)Z"⟩, 21)]
theorem lw_r1 : ∀ q ∈ lw_privs_1, lw_okq q := List.forall_mem_cons.mpr ⟨lw_p0, List.forall_mem_cons.mpr ⟨lw_p1, List.forall_mem_cons.mpr ⟨lw_p2, List.forall_mem_cons.mpr ⟨lw_p3, List.forall_mem_cons.mpr ⟨lw_p4, List.forall_mem_cons.mpr ⟨lw_p5, List.forall_mem_cons.mpr ⟨lw_p6, List.forall_mem_cons.mpr ⟨lw_p7, List.forall_mem_cons.mpr ⟨lw_p8, List.forall_mem_cons.mpr ⟨lw_p9, List.forall_mem_cons.mpr ⟨lw_p10, List.forall_mem_cons.mpr ⟨lw_p11, List.forall_mem_cons.mpr ⟨lw_p12, List.forall_mem_cons.mpr ⟨lw_p13, List.forall_mem_cons.mpr ⟨lw_p14, List.forall_mem_cons.mpr ⟨lw_p15, fun _ h => absurd h List.not_mem_nil⟩⟩⟩⟩⟩⟩⟩⟩⟩⟩⟩⟩⟩⟩⟩⟩
theorem lw_p16 : lw_okq (⟨"RulePayrollModel", "high", "(IZI)I"⟩, 21) := ⟨⟨by decide +kernel, by decide +kernel⟩, List.mem_of_getElem? (i := 449) (by decide +kernel), List.mem_of_getElem? (i := 539) (by decide +kernel), List.mem_of_getElem? (i := 540) (by decide +kernel)⟩
theorem lw_p17 : lw_okq (⟨"RulePayrollModel", "paidWhole", "(I)Z"⟩, 21) := ⟨⟨by decide +kernel, by decide +kernel⟩, List.mem_of_getElem? (i := 449) (by decide +kernel), List.mem_of_getElem? (i := 571) (by decide +kernel), List.mem_of_getElem? (i := 572) (by decide +kernel)⟩
theorem lw_p18 : lw_okq (⟨"RulePayrollModel", "whole", "(J)Z"⟩, 21) := ⟨⟨by decide +kernel, by decide +kernel⟩, List.mem_of_getElem? (i := 449) (by decide +kernel), List.mem_of_getElem? (i := 575) (by decide +kernel), List.mem_of_getElem? (i := 576) (by decide +kernel)⟩
theorem lw_p19 : lw_okq (⟨"RulePayrollModel", "person", "(I)V"⟩, 21) := ⟨⟨by decide +kernel, by decide +kernel⟩, List.mem_of_getElem? (i := 449) (by decide +kernel), List.mem_of_getElem? (i := 582) (by decide +kernel), List.mem_of_getElem? (i := 583) (by decide +kernel)⟩
theorem lw_p20 : lw_okq (⟨"RulePayrollModel", "workOut", "(II)J"⟩, 21) := ⟨⟨by decide +kernel, by decide +kernel⟩, List.mem_of_getElem? (i := 449) (by decide +kernel), List.mem_of_getElem? (i := 587) (by decide +kernel), List.mem_of_getElem? (i := 588) (by decide +kernel)⟩
theorem lw_p21 : lw_okq (⟨"RulePayrollModel", "choose", "(II)J"⟩, 21) := ⟨⟨by decide +kernel, by decide +kernel⟩, List.mem_of_getElem? (i := 449) (by decide +kernel), List.mem_of_getElem? (i := 591) (by decide +kernel), List.mem_of_getElem? (i := 592) (by decide +kernel)⟩
theorem lw_p22 : lw_okq (⟨"RulePayrollModel", "stops", "(J)J"⟩, 21) := ⟨⟨by decide +kernel, by decide +kernel⟩, List.mem_of_getElem? (i := 449) (by decide +kernel), List.mem_of_getElem? (i := 598) (by decide +kernel), List.mem_of_getElem? (i := 599) (by decide +kernel)⟩
theorem lw_p23 : lw_okq (⟨"RulePayrollModel", "scale", "(IJ)J"⟩, 21) := ⟨⟨by decide +kernel, by decide +kernel⟩, List.mem_of_getElem? (i := 449) (by decide +kernel), List.mem_of_getElem? (i := 602) (by decide +kernel), List.mem_of_getElem? (i := 603) (by decide +kernel)⟩
theorem lw_p24 : lw_okq (⟨"RulePayrollModel", "rounded", "(JJ)J"⟩, 21) := ⟨⟨by decide +kernel, by decide +kernel⟩, List.mem_of_getElem? (i := 449) (by decide +kernel), List.mem_of_getElem? (i := 607) (by decide +kernel), List.mem_of_getElem? (i := 608) (by decide +kernel)⟩
theorem lw_p25 : lw_okq (⟨"RulePayrollModel", "ranged", "(J)J"⟩, 21) := ⟨⟨by decide +kernel, by decide +kernel⟩, List.mem_of_getElem? (i := 449) (by decide +kernel), List.mem_of_getElem? (i := 612) (by decide +kernel), List.mem_of_getElem? (i := 613) (by decide +kernel)⟩
theorem lw_p26 : lw_okq (⟨"RulePayrollModel", "plain", "(IJJ)J"⟩, 21) := ⟨⟨by decide +kernel, by decide +kernel⟩, List.mem_of_getElem? (i := 449) (by decide +kernel), List.mem_of_getElem? (i := 617) (by decide +kernel), List.mem_of_getElem? (i := 618) (by decide +kernel)⟩
theorem lw_p27 : lw_okq (⟨"RulePayrollModel", "payAll", "(I)V"⟩, 21) := ⟨⟨by decide +kernel, by decide +kernel⟩, List.mem_of_getElem? (i := 449) (by decide +kernel), List.mem_of_getElem? (i := 625) (by decide +kernel), List.mem_of_getElem? (i := 626) (by decide +kernel)⟩
theorem lw_p28 : lw_okq (⟨"RulePayrollModel", "payOne", "(II)I"⟩, 21) := ⟨⟨by decide +kernel, by decide +kernel⟩, List.mem_of_getElem? (i := 449) (by decide +kernel), List.mem_of_getElem? (i := 629) (by decide +kernel), List.mem_of_getElem? (i := 630) (by decide +kernel)⟩
theorem lw_p29 : lw_okq (⟨"RulePayrollModel", "takeBack", "(I)V"⟩, 21) := ⟨⟨by decide +kernel, by decide +kernel⟩, List.mem_of_getElem? (i := 449) (by decide +kernel), List.mem_of_getElem? (i := 637) (by decide +kernel), List.mem_of_getElem? (i := 638) (by decide +kernel)⟩
theorem lw_p30 : lw_okq (⟨"RulePayrollModel", "slips", "(I)I"⟩, 21) := ⟨⟨by decide +kernel, by decide +kernel⟩, List.mem_of_getElem? (i := 449) (by decide +kernel), List.mem_of_getElem? (i := 645) (by decide +kernel), List.mem_of_getElem? (i := 646) (by decide +kernel)⟩
def lw_privs_2 : List (MethodName × Nat) := [(⟨"RulePayrollModel", "high", "(IZI)I"⟩, 21), (⟨"RulePayrollModel", "paidWhole", "(I)Z"⟩, 21), (⟨"RulePayrollModel", "whole", "(J)Z"⟩, 21), (⟨"RulePayrollModel", "person", "(I)V"⟩, 21), (⟨"RulePayrollModel", "workOut", "(II)J"⟩, 21), (⟨"RulePayrollModel", "choose", "(II)J"⟩, 21), (⟨"RulePayrollModel", "stops", "(J)J"⟩, 21), (⟨"RulePayrollModel", "scale", "(IJ)J"⟩, 21), (⟨"RulePayrollModel", "rounded", "(JJ)J"⟩, 21), (⟨"RulePayrollModel", "ranged", "(J)J"⟩, 21), (⟨"RulePayrollModel", "plain", "(IJJ)J"⟩, 21), (⟨"RulePayrollModel", "payAll", "(I)V"⟩, 21), (⟨"RulePayrollModel", "payOne", "(II)I"⟩, 21), (⟨"RulePayrollModel", "takeBack", "(I)V"⟩, 21), (⟨"RulePayrollModel", "slips", "(I)I"⟩, 21)]
theorem lw_r2 : ∀ q ∈ lw_privs_2, lw_okq q := List.forall_mem_cons.mpr ⟨lw_p16, List.forall_mem_cons.mpr ⟨lw_p17, List.forall_mem_cons.mpr ⟨lw_p18, List.forall_mem_cons.mpr ⟨lw_p19, List.forall_mem_cons.mpr ⟨lw_p20, List.forall_mem_cons.mpr ⟨lw_p21, List.forall_mem_cons.mpr ⟨lw_p22, List.forall_mem_cons.mpr ⟨lw_p23, List.forall_mem_cons.mpr ⟨lw_p24, List.forall_mem_cons.mpr ⟨lw_p25, List.forall_mem_cons.mpr ⟨lw_p26, List.forall_mem_cons.mpr ⟨lw_p27, List.forall_mem_cons.mpr ⟨lw_p28, List.forall_mem_cons.mpr ⟨lw_p29, List.forall_mem_cons.mpr ⟨lw_p30, fun _ h => absurd h List.not_mem_nil⟩⟩⟩⟩⟩⟩⟩⟩⟩⟩⟩⟩⟩⟩⟩
def lw_privs : List (MethodName × Nat) := lw_privs_1 ++ (lw_privs_2)
def lw_tbl : List Cond := k2_sels lw_privs ++ tables_1
theorem lw_privs_ok : ∀ q ∈ lw_privs, lw_okq q := by
  show ∀ q ∈ lw_privs_1 ++ (lw_privs_2), lw_okq q
  exact List.forall_mem_append.mpr ⟨lw_r1, lw_r2⟩

def mm_GW : List Cond := lw_tbl.filter goodWord
theorem mm_in {w : Cond} (h : w ∈ lw_tbl) (g : goodWord w = true) : w ∈ mm_GW := List.mem_filter.mpr ⟨h, g⟩
theorem mm_GW_tbl : ∀ w ∈ mm_GW, w ∈ lw_tbl := fun _ h => (List.mem_filter.mp h).1
theorem mm_GW_self : GoodIn mm_GW mm_GW := fun w h => ⟨h, good_of_word (List.mem_filter.mp h).2⟩
theorem mm_GW_law : GoodIn lw_tbl mm_GW := fun w h => ⟨(List.mem_filter.mp h).1, good_of_word (List.mem_filter.mp h).2⟩
theorem mm_g1 {w : Cond} {ws : List Cond} (h : w ∈ mm_GW) (hs : GoodIn mm_GW ws) : GoodIn mm_GW (w :: ws) := fun x hx => (List.mem_cons.mp hx).elim (fun q => q ▸ mm_GW_self w h) (hs x)
theorem mm_gV {own C : String} {idx : Nat} {y : MethodName} {cw : Cond} (h1 : Cond.methodLink own idx y ∈ mm_GW) (h2 : Cond.instanceMethod y ∈ mm_GW) (h3 : Cond.selects C y y ∈ mm_GW) (h4 : Cond.initialized C ∈ mm_GW) (h5 : cw ∈ mm_GW) : GoodIn mm_GW (wsV own idx C y (cw :: mm_GW)) := mm_g1 h1 (mm_g1 h2 (mm_g1 h3 (mm_g1 h4 (mm_g1 h5 mm_GW_self))))
theorem mm_gS {own : String} {idx : Nat} {y : MethodName} {cw : Cond} (h1 : Cond.methodLink own idx y ∈ mm_GW) (h2 : Cond.static y ∈ mm_GW) (h4 : Cond.initialized y.cls ∈ mm_GW) (h5 : cw ∈ mm_GW) : GoodIn mm_GW (va_wsS own idx y (cw :: mm_GW)) := mm_g1 h1 (mm_g1 h2 (mm_g1 h4 (mm_g1 h5 mm_GW_self)))
abbrev RX6 : String := "RulePayroll"
abbrev RX7 : String := "RulePayrollModel"
abbrev RX0 : String := "RulePayroll$Nodes"
abbrev RX1 : String := "RulePayroll$Person"
abbrev RX2 : String := "RulePayroll$Rules"
abbrev RX3 : String := "RulePayroll$Runs"
abbrev RX4 : String := "RulePayroll$Table"
abbrev RX5 : String := "RulePayroll$Values"
abbrev RL : String := "RulePayrollLaw"
abbrev RJ7 : String := "java/util/Arrays"
def TX0 : u_T := fun k => match k with
  | 0 => ("RulePayroll$Nodes", "kinds", "[I", true)
  | 1 => ("RulePayroll$Nodes", "as", "[I", true)
  | 2 => ("RulePayroll$Nodes", "bs", "[I", true)
  | 3 => ("RulePayroll$Nodes", "cs", "[I", true)
  | 4 => ("RulePayroll$Nodes", "levels", "[I", true)
  | 5 => ("RulePayroll$Nodes", "ranks", "[I", true)
  | 6 => ("RulePayroll$Nodes", "order", "[I", true)
  | _ => ("RulePayroll$Nodes", "made", "I", false)
def tyX0 : Nat → FieldType := fun k => match k with
  | 0 => .array .int
  | 1 => .array .int
  | 2 => .array .int
  | 3 => .array .int
  | 4 => .array .int
  | 5 => .array .int
  | 6 => .array .int
  | _ => .int
theorem nmX0 : ∀ a, a < 8 → ∀ b, b < 8 → a ≠ b → (TX0 a).2.1 ≠ (TX0 b).2.1 := by decide +kernel
theorem tyX0_ok : ∀ k, k < 8 → parseFieldDescriptor (TX0 k).2.2.1 = some (tyX0 k) := by decide +kernel
theorem in_X0 : ∀ w ∈ u_ws RX0 TX0 8, w ∈ mm_GW := by
  have h : (u_ws RX0 TX0 8).all (fun w => decide (w ∈ lw_tbl) && goodWord w) = true := by decide +kernel
  intro w hw
  have h1 := List.all_eq_true.mp h w hw
  simp only [Bool.and_eq_true, decide_eq_true_eq] at h1
  exact mm_in h1.1 h1.2
def TX1 : u_T := fun k => match k with
  | 0 => ("RulePayroll$Person", "inputs", "[I", true)
  | 1 => ("RulePayroll$Person", "grossPaid", "J", false)
  | 2 => ("RulePayroll$Person", "taxPaid", "J", false)
  | _ => ("RulePayroll$Person", "active", "Z", false)
def tyX1 : Nat → FieldType := fun k => match k with
  | 0 => .array .int
  | 1 => .long
  | 2 => .long
  | _ => .boolean
theorem nmX1 : ∀ a, a < 4 → ∀ b, b < 4 → a ≠ b → (TX1 a).2.1 ≠ (TX1 b).2.1 := by decide +kernel
theorem tyX1_ok : ∀ k, k < 4 → parseFieldDescriptor (TX1 k).2.2.1 = some (tyX1 k) := by decide +kernel
theorem in_X1 : ∀ w ∈ u_ws RX1 TX1 4, w ∈ mm_GW := by
  have h : (u_ws RX1 TX1 4).all (fun w => decide (w ∈ lw_tbl) && goodWord w) = true := by decide +kernel
  intro w hw
  have h1 := List.all_eq_true.mp h w hw
  simp only [Bool.and_eq_true, decide_eq_true_eq] at h1
  exact mm_in h1.1 h1.2
def TX2 : u_T := fun k => match k with
  | 0 => ("RulePayroll$Rules", "nodes", "LRulePayroll$Nodes;", true)
  | 1 => ("RulePayroll$Rules", "definitions", "[I", true)
  | 2 => ("RulePayroll$Rules", "tables", "[LRulePayroll$Table;", true)
  | _ => ("RulePayroll$Rules", "worked", "[J", true)
def tyX2 : Nat → FieldType := fun k => match k with
  | 0 => .object "RulePayroll$Nodes"
  | 1 => .array .int
  | 2 => .array (.object "RulePayroll$Table")
  | _ => .array .long
theorem nmX2 : ∀ a, a < 4 → ∀ b, b < 4 → a ≠ b → (TX2 a).2.1 ≠ (TX2 b).2.1 := by decide +kernel
theorem tyX2_ok : ∀ k, k < 4 → parseFieldDescriptor (TX2 k).2.2.1 = some (tyX2 k) := by decide +kernel
theorem in_X2 : ∀ w ∈ u_ws RX2 TX2 4, w ∈ mm_GW := by
  have h : (u_ws RX2 TX2 4).all (fun w => decide (w ∈ lw_tbl) && goodWord w) = true := by decide +kernel
  intro w hw
  have h1 := List.all_eq_true.mp h w hw
  simp only [Bool.and_eq_true, decide_eq_true_eq] at h1
  exact mm_in h1.1 h1.2
def TX3 : u_T := fun k => match k with
  | 0 => ("RulePayroll$Runs", "amounts", "[J", true)
  | 1 => ("RulePayroll$Runs", "reasons", "[I", true)
  | 2 => ("RulePayroll$Runs", "takenBack", "[Z", true)
  | _ => ("RulePayroll$Runs", "made", "I", false)
def tyX3 : Nat → FieldType := fun k => match k with
  | 0 => .array .long
  | 1 => .array .int
  | 2 => .array .boolean
  | _ => .int
theorem nmX3 : ∀ a, a < 4 → ∀ b, b < 4 → a ≠ b → (TX3 a).2.1 ≠ (TX3 b).2.1 := by decide +kernel
theorem tyX3_ok : ∀ k, k < 4 → parseFieldDescriptor (TX3 k).2.2.1 = some (tyX3 k) := by decide +kernel
theorem in_X3 : ∀ w ∈ u_ws RX3 TX3 4, w ∈ mm_GW := by
  have h : (u_ws RX3 TX3 4).all (fun w => decide (w ∈ lw_tbl) && goodWord w) = true := by decide +kernel
  intro w hw
  have h1 := List.all_eq_true.mp h w hw
  simp only [Bool.and_eq_true, decide_eq_true_eq] at h1
  exact mm_in h1.1 h1.2
def TX4 : u_T := fun k => match k with
  | 0 => ("RulePayroll$Table", "limits", "[I", true)
  | 1 => ("RulePayroll$Table", "rates", "[I", true)
  | _ => ("RulePayroll$Table", "steps", "I", false)
def tyX4 : Nat → FieldType := fun k => match k with
  | 0 => .array .int
  | 1 => .array .int
  | _ => .int
theorem nmX4 : ∀ a, a < 3 → ∀ b, b < 3 → a ≠ b → (TX4 a).2.1 ≠ (TX4 b).2.1 := by decide +kernel
theorem tyX4_ok : ∀ k, k < 3 → parseFieldDescriptor (TX4 k).2.2.1 = some (tyX4 k) := by decide +kernel
theorem in_X4 : ∀ w ∈ u_ws RX4 TX4 3, w ∈ mm_GW := by
  have h : (u_ws RX4 TX4 3).all (fun w => decide (w ∈ lw_tbl) && goodWord w) = true := by decide +kernel
  intro w hw
  have h1 := List.all_eq_true.mp h w hw
  simp only [Bool.and_eq_true, decide_eq_true_eq] at h1
  exact mm_in h1.1 h1.2
def TX6 : u_T := fun k => match k with
  | 0 => ("RulePayroll", "rules", "LRulePayroll$Rules;", true)
  | 1 => ("RulePayroll", "persons", "[LRulePayroll$Person;", true)
  | _ => ("RulePayroll", "runs", "LRulePayroll$Runs;", true)
def tyX6 : Nat → FieldType := fun k => match k with
  | 0 => .object "RulePayroll$Rules"
  | 1 => .array (.object "RulePayroll$Person")
  | _ => .object "RulePayroll$Runs"
theorem nmX6 : ∀ a, a < 3 → ∀ b, b < 3 → a ≠ b → (TX6 a).2.1 ≠ (TX6 b).2.1 := by decide +kernel
theorem tyX6_ok : ∀ k, k < 3 → parseFieldDescriptor (TX6 k).2.2.1 = some (tyX6 k) := by decide +kernel
theorem in_X6 : ∀ w ∈ u_ws RX6 TX6 3, w ∈ mm_GW := by
  have h : (u_ws RX6 TX6 3).all (fun w => decide (w ∈ lw_tbl) && goodWord w) = true := by decide +kernel
  intro w hw
  have h1 := List.all_eq_true.mp h w hw
  simp only [Bool.and_eq_true, decide_eq_true_eq] at h1
  exact mm_in h1.1 h1.2
def TX7 : u_T := fun k => match k with
  | 0 => ("RulePayrollModel", "nodes", "I", false)
  | 1 => ("RulePayrollModel", "runs", "I", false)
  | 2 => ("RulePayrollModel", "kind", "[I", true)
  | 3 => ("RulePayrollModel", "opA", "[I", true)
  | 4 => ("RulePayrollModel", "opB", "[I", true)
  | 5 => ("RulePayrollModel", "opC", "[I", true)
  | 6 => ("RulePayrollModel", "level", "[I", true)
  | 7 => ("RulePayrollModel", "rank", "[I", true)
  | 8 => ("RulePayrollModel", "definition", "[I", true)
  | 9 => ("RulePayrollModel", "steps", "[I", true)
  | 10 => ("RulePayrollModel", "limit", "[I", true)
  | 11 => ("RulePayrollModel", "rate", "[I", true)
  | 12 => ("RulePayrollModel", "inputs", "[I", true)
  | 13 => ("RulePayrollModel", "active", "[Z", true)
  | 14 => ("RulePayrollModel", "taken", "[Z", true)
  | 15 => ("RulePayrollModel", "has", "[Z", true)
  | 16 => ("RulePayrollModel", "reason", "[I", true)
  | 17 => ("RulePayrollModel", "slip", "[J", true)
  | 18 => ("RulePayrollModel", "paid", "[J", true)
  | 19 => ("RulePayrollModel", "is", "[J", true)
  | _ => ("RulePayrollModel", "defined", "[J", true)
def tyX7 : Nat → FieldType := fun k => match k with
  | 0 => .int
  | 1 => .int
  | 2 => .array .int
  | 3 => .array .int
  | 4 => .array .int
  | 5 => .array .int
  | 6 => .array .int
  | 7 => .array .int
  | 8 => .array .int
  | 9 => .array .int
  | 10 => .array .int
  | 11 => .array .int
  | 12 => .array .int
  | 13 => .array .boolean
  | 14 => .array .boolean
  | 15 => .array .boolean
  | 16 => .array .int
  | 17 => .array .long
  | 18 => .array .long
  | 19 => .array .long
  | _ => .array .long
theorem nmX7 : ∀ a, a < 21 → ∀ b, b < 21 → a ≠ b → (TX7 a).2.1 ≠ (TX7 b).2.1 := by decide +kernel
theorem tyX7_ok : ∀ k, k < 21 → parseFieldDescriptor (TX7 k).2.2.1 = some (tyX7 k) := by decide +kernel
theorem in_X7 : ∀ w ∈ u_ws RX7 TX7 21, w ∈ mm_GW := by
  have h : (u_ws RX7 TX7 21).all (fun w => decide (w ∈ lw_tbl) && goodWord w) = true := by decide +kernel
  intro w hw
  have h1 := List.all_eq_true.mp h w hw
  simp only [Bool.and_eq_true, decide_eq_true_eq] at h1
  exact mm_in h1.1 h1.2
abbrev vwCl : List vw_C := [(RX0, TX0, 8), (RX1, TX1, 4), (RX2, TX2, 4), (RX3, TX3, 4), (RX4, TX4, 3), (RX6, TX6, 3), (RX7, TX7, 21)]
abbrev c_X6_init : ByteArray := prog_1_method_1_code
abbrev y_X6_init : MethodName := ⟨"RulePayroll", "<init>", "()V"⟩
abbrev cw_X6_init : Cond := .code y_X6_init c_X6_init 2 none
def w_X6_init : List Cond := cw_X6_init :: mm_GW
set_option maxRecDepth 100000 in
theorem kc_X6_init : cw_X6_init ∈ mm_GW := mm_in (List.mem_of_getElem? (i := 46) rfl) rfl
abbrev c_X6_node : ByteArray := prog_1_method_2_code
abbrev y_X6_node : MethodName := ⟨"RulePayroll", "node", "(IIII)I"⟩
abbrev cw_X6_node : Cond := .code y_X6_node c_X6_node 5 (some .int)
def w_X6_node : List Cond := cw_X6_node :: mm_GW
set_option maxRecDepth 100000 in
theorem kc_X6_node : cw_X6_node ∈ mm_GW := mm_in (List.mem_of_getElem? (i := 193) rfl) rfl
abbrev c_X6_define : ByteArray := prog_1_method_3_code
abbrev y_X6_define : MethodName := ⟨"RulePayroll", "define", "(II)I"⟩
abbrev cw_X6_define : Cond := .code y_X6_define c_X6_define 3 (some .int)
def w_X6_define : List Cond := cw_X6_define :: mm_GW
set_option maxRecDepth 100000 in
theorem kc_X6_define : cw_X6_define ∈ mm_GW := mm_in (List.mem_of_getElem? (i := 236) rfl) rfl
abbrev c_X6_undefine : ByteArray := prog_1_method_4_code
abbrev y_X6_undefine : MethodName := ⟨"RulePayroll", "undefine", "(I)I"⟩
abbrev cw_X6_undefine : Cond := .code y_X6_undefine c_X6_undefine 2 (some .int)
def w_X6_undefine : List Cond := cw_X6_undefine :: mm_GW
set_option maxRecDepth 100000 in
theorem kc_X6_undefine : cw_X6_undefine ∈ mm_GW := mm_in (List.mem_of_getElem? (i := 242) rfl) rfl
abbrev c_X6_step : ByteArray := prog_1_method_5_code
abbrev y_X6_step : MethodName := ⟨"RulePayroll", "step", "(III)I"⟩
abbrev cw_X6_step : Cond := .code y_X6_step c_X6_step 4 (some .int)
def w_X6_step : List Cond := cw_X6_step :: mm_GW
set_option maxRecDepth 100000 in
theorem kc_X6_step : cw_X6_step ∈ mm_GW := mm_in (List.mem_of_getElem? (i := 246) rfl) rfl
abbrev c_X6_clear : ByteArray := prog_1_method_6_code
abbrev y_X6_clear : MethodName := ⟨"RulePayroll", "clear", "(I)I"⟩
abbrev cw_X6_clear : Cond := .code y_X6_clear c_X6_clear 2 (some .int)
def w_X6_clear : List Cond := cw_X6_clear :: mm_GW
set_option maxRecDepth 100000 in
theorem kc_X6_clear : cw_X6_clear ∈ mm_GW := mm_in (List.mem_of_getElem? (i := 254) rfl) rfl
abbrev c_X6_input : ByteArray := prog_1_method_7_code
abbrev y_X6_input : MethodName := ⟨"RulePayroll", "input", "(III)I"⟩
abbrev cw_X6_input : Cond := .code y_X6_input c_X6_input 4 (some .int)
def w_X6_input : List Cond := cw_X6_input :: mm_GW
set_option maxRecDepth 100000 in
theorem kc_X6_input : cw_X6_input ∈ mm_GW := mm_in (List.mem_of_getElem? (i := 262) rfl) rfl
abbrev c_X6_activate : ByteArray := prog_1_method_8_code
abbrev y_X6_activate : MethodName := ⟨"RulePayroll", "activate", "(IZ)I"⟩
abbrev cw_X6_activate : Cond := .code y_X6_activate c_X6_activate 3 (some .int)
def w_X6_activate : List Cond := cw_X6_activate :: mm_GW
set_option maxRecDepth 100000 in
theorem kc_X6_activate : cw_X6_activate ∈ mm_GW := mm_in (List.mem_of_getElem? (i := 266) rfl) rfl
abbrev c_X6_value : ByteArray := prog_1_method_9_code
abbrev y_X6_value : MethodName := ⟨"RulePayroll", "value", "(II)J"⟩
abbrev cw_X6_value : Cond := .code y_X6_value c_X6_value 3 (some .long)
def w_X6_value : List Cond := cw_X6_value :: mm_GW
set_option maxRecDepth 100000 in
theorem kc_X6_value : cw_X6_value ∈ mm_GW := mm_in (List.mem_of_getElem? (i := 270) rfl) rfl
abbrev c_X6_pay : ByteArray := prog_1_method_10_code
abbrev y_X6_pay : MethodName := ⟨"RulePayroll", "pay", "()I"⟩
abbrev cw_X6_pay : Cond := .code y_X6_pay c_X6_pay 2 (some .int)
def w_X6_pay : List Cond := cw_X6_pay :: mm_GW
set_option maxRecDepth 100000 in
theorem kc_X6_pay : cw_X6_pay ∈ mm_GW := mm_in (List.mem_of_getElem? (i := 356) rfl) rfl
abbrev c_X6_back : ByteArray := prog_1_method_11_code
abbrev y_X6_back : MethodName := ⟨"RulePayroll", "back", "(I)I"⟩
abbrev cw_X6_back : Cond := .code y_X6_back c_X6_back 2 (some .int)
def w_X6_back : List Cond := cw_X6_back :: mm_GW
set_option maxRecDepth 100000 in
theorem kc_X6_back : cw_X6_back ∈ mm_GW := mm_in (List.mem_of_getElem? (i := 400) rfl) rfl
abbrev c_X6_again : ByteArray := prog_1_method_12_code
abbrev y_X6_again : MethodName := ⟨"RulePayroll", "again", "(I)I"⟩
abbrev cw_X6_again : Cond := .code y_X6_again c_X6_again 2 (some .int)
def w_X6_again : List Cond := cw_X6_again :: mm_GW
set_option maxRecDepth 100000 in
theorem kc_X6_again : cw_X6_again ∈ mm_GW := mm_in (List.mem_of_getElem? (i := 425) rfl) rfl
abbrev c_X6_slip : ByteArray := prog_1_method_13_code
abbrev y_X6_slip : MethodName := ⟨"RulePayroll", "slip", "(III)J"⟩
abbrev cw_X6_slip : Cond := .code y_X6_slip c_X6_slip 4 (some .long)
def w_X6_slip : List Cond := cw_X6_slip :: mm_GW
set_option maxRecDepth 100000 in
theorem kc_X6_slip : cw_X6_slip ∈ mm_GW := mm_in (List.mem_of_getElem? (i := 434) rfl) rfl
abbrev c_X6_held : ByteArray := prog_1_method_14_code
abbrev y_X6_held : MethodName := ⟨"RulePayroll", "held", "(II)I"⟩
abbrev cw_X6_held : Cond := .code y_X6_held c_X6_held 3 (some .int)
def w_X6_held : List Cond := cw_X6_held :: mm_GW
set_option maxRecDepth 100000 in
theorem kc_X6_held : cw_X6_held ∈ mm_GW := mm_in (List.mem_of_getElem? (i := 439) rfl) rfl
abbrev c_X6_account : ByteArray := prog_1_method_15_code
abbrev y_X6_account : MethodName := ⟨"RulePayroll", "account", "(I)J"⟩
abbrev cw_X6_account : Cond := .code y_X6_account c_X6_account 2 (some .long)
def w_X6_account : List Cond := cw_X6_account :: mm_GW
set_option maxRecDepth 100000 in
theorem kc_X6_account : cw_X6_account ∈ mm_GW := mm_in (List.mem_of_getElem? (i := 443) rfl) rfl
abbrev c_X6_paid : ByteArray := prog_1_method_16_code
abbrev y_X6_paid : MethodName := ⟨"RulePayroll", "paid", "(II)J"⟩
abbrev cw_X6_paid : Cond := .code y_X6_paid c_X6_paid 3 (some .long)
def w_X6_paid : List Cond := cw_X6_paid :: mm_GW
set_option maxRecDepth 100000 in
theorem kc_X6_paid : cw_X6_paid ∈ mm_GW := mm_in (List.mem_of_getElem? (i := 456) rfl) rfl
abbrev c_X6_count : ByteArray := prog_1_method_17_code
abbrev y_X6_count : MethodName := ⟨"RulePayroll", "count", "(I)I"⟩
abbrev cw_X6_count : Cond := .code y_X6_count c_X6_count 2 (some .int)
def w_X6_count : List Cond := cw_X6_count :: mm_GW
set_option maxRecDepth 100000 in
theorem kc_X6_count : cw_X6_count ∈ mm_GW := mm_in (List.mem_of_getElem? (i := 461) rfl) rfl
abbrev c_X6_within : ByteArray := prog_1_method_18_code
abbrev y_X6_within : MethodName := ⟨"RulePayroll", "within", "(II)Z"⟩
abbrev cw_X6_within : Cond := .code y_X6_within c_X6_within 2 (some .boolean)
def w_X6_within : List Cond := cw_X6_within :: mm_GW
set_option maxRecDepth 100000 in
theorem kc_X6_within : cw_X6_within ∈ mm_GW := mm_in (List.mem_of_getElem? (i := 200) rfl) rfl
abbrev c_X6_howManyActive : ByteArray := prog_1_method_19_code
abbrev y_X6_howManyActive : MethodName := ⟨"RulePayroll", "howManyActive", "()I"⟩
abbrev cw_X6_howManyActive : Cond := .code y_X6_howManyActive c_X6_howManyActive 3 (some .int)
def w_X6_howManyActive : List Cond := cw_X6_howManyActive :: mm_GW
set_option maxRecDepth 100000 in
theorem kc_X6_howManyActive : cw_X6_howManyActive ∈ mm_GW := mm_in (List.mem_of_getElem? (i := 474) rfl) rfl
abbrev c_X6_payAll : ByteArray := prog_1_method_20_code
abbrev y_X6_payAll : MethodName := ⟨"RulePayroll", "payAll", "(I)V"⟩
abbrev cw_X6_payAll : Cond := .code y_X6_payAll c_X6_payAll 3 none
def w_X6_payAll : List Cond := cw_X6_payAll :: mm_GW
set_option maxRecDepth 100000 in
theorem kc_X6_payAll : cw_X6_payAll ∈ mm_GW := mm_in (List.mem_of_getElem? (i := 360) rfl) rfl
abbrev c_X6_payOne : ByteArray := prog_1_method_21_code
abbrev y_X6_payOne : MethodName := ⟨"RulePayroll", "payOne", "(II)V"⟩
abbrev cw_X6_payOne : Cond := .code y_X6_payOne c_X6_payOne 11 none
def w_X6_payOne : List Cond := cw_X6_payOne :: mm_GW
set_option maxRecDepth 100000 in
theorem kc_X6_payOne : cw_X6_payOne ∈ mm_GW := mm_in (List.mem_of_getElem? (i := 380) rfl) rfl
abbrev c_X6_unpayAll : ByteArray := prog_1_method_22_code
abbrev y_X6_unpayAll : MethodName := ⟨"RulePayroll", "unpayAll", "(I)V"⟩
abbrev cw_X6_unpayAll : Cond := .code y_X6_unpayAll c_X6_unpayAll 3 none
def w_X6_unpayAll : List Cond := cw_X6_unpayAll :: mm_GW
set_option maxRecDepth 100000 in
theorem kc_X6_unpayAll : cw_X6_unpayAll ∈ mm_GW := mm_in (List.mem_of_getElem? (i := 413) rfl) rfl
abbrev c_X7_init : ByteArray := prog_9_method_1_code
abbrev y_X7_init : MethodName := ⟨"RulePayrollModel", "<init>", "()V"⟩
abbrev cw_X7_init : Cond := .code y_X7_init c_X7_init 2 none
def w_X7_init : List Cond := cw_X7_init :: mm_GW
set_option maxRecDepth 100000 in
theorem kc_X7_init : cw_X7_init ∈ mm_GW := mm_in (List.mem_of_getElem? (i := 483) rfl) rfl
abbrev c_X7_out : ByteArray := prog_9_method_2_code
abbrev y_X7_out : MethodName := ⟨"RulePayrollModel", "out", "(III)Z"⟩
abbrev cw_X7_out : Cond := .code y_X7_out c_X7_out 4 (some .boolean)
def w_X7_out : List Cond := cw_X7_out :: mm_GW
set_option maxRecDepth 100000 in
theorem kc_X7_out : cw_X7_out ∈ mm_GW := mm_in (List.mem_of_getElem? (i := 560) rfl) rfl
abbrev c_X7_isNode : ByteArray := prog_9_method_3_code
abbrev y_X7_isNode : MethodName := ⟨"RulePayrollModel", "isNode", "(I)Z"⟩
abbrev cw_X7_isNode : Cond := .code y_X7_isNode c_X7_isNode 2 (some .boolean)
def w_X7_isNode : List Cond := cw_X7_isNode :: mm_GW
set_option maxRecDepth 100000 in
theorem kc_X7_isNode : cw_X7_isNode ∈ mm_GW := mm_in (List.mem_of_getElem? (i := 568) rfl) rfl
abbrev c_X7_named : ByteArray := prog_9_method_4_code
abbrev y_X7_named : MethodName := ⟨"RulePayrollModel", "named", "(I)I"⟩
abbrev cw_X7_named : Cond := .code y_X7_named c_X7_named 2 (some .int)
def w_X7_named : List Cond := cw_X7_named :: mm_GW
set_option maxRecDepth 100000 in
theorem kc_X7_named : cw_X7_named ∈ mm_GW := mm_in (List.mem_of_getElem? (i := 564) rfl) rfl
abbrev c_X7_fits : ByteArray := prog_9_method_5_code
abbrev y_X7_fits : MethodName := ⟨"RulePayrollModel", "fits", "(IIII)Z"⟩
abbrev cw_X7_fits : Cond := .code y_X7_fits c_X7_fits 6 (some .boolean)
def w_X7_fits : List Cond := cw_X7_fits :: mm_GW
set_option maxRecDepth 100000 in
theorem kc_X7_fits : cw_X7_fits ∈ mm_GW := mm_in (List.mem_of_getElem? (i := 556) rfl) rfl
abbrev c_X7_high : ByteArray := prog_9_method_6_code
abbrev y_X7_high : MethodName := ⟨"RulePayrollModel", "high", "(IZI)I"⟩
abbrev cw_X7_high : Cond := .code y_X7_high c_X7_high 4 (some .int)
def w_X7_high : List Cond := cw_X7_high :: mm_GW
set_option maxRecDepth 100000 in
theorem kc_X7_high : cw_X7_high ∈ mm_GW := mm_in (List.mem_of_getElem? (i := 572) rfl) rfl
abbrev c_X7_node : ByteArray := prog_9_method_7_code
abbrev y_X7_node : MethodName := ⟨"RulePayrollModel", "node", "(IIII)I"⟩
abbrev cw_X7_node : Cond := .code y_X7_node c_X7_node 11 (some .int)
def w_X7_node : List Cond := cw_X7_node :: mm_GW
set_option maxRecDepth 100000 in
theorem kc_X7_node : cw_X7_node ∈ mm_GW := mm_in (List.mem_of_getElem? (i := 552) rfl) rfl
abbrev c_X7_define : ByteArray := prog_9_method_8_code
abbrev y_X7_define : MethodName := ⟨"RulePayrollModel", "define", "(II)I"⟩
abbrev cw_X7_define : Cond := .code y_X7_define c_X7_define 3 (some .int)
def w_X7_define : List Cond := cw_X7_define :: mm_GW
set_option maxRecDepth 100000 in
theorem kc_X7_define : cw_X7_define ∈ mm_GW := mm_in (List.mem_of_getElem? (i := 576) rfl) rfl
abbrev c_X7_undefine : ByteArray := prog_9_method_9_code
abbrev y_X7_undefine : MethodName := ⟨"RulePayrollModel", "undefine", "(I)I"⟩
abbrev cw_X7_undefine : Cond := .code y_X7_undefine c_X7_undefine 2 (some .int)
def w_X7_undefine : List Cond := cw_X7_undefine :: mm_GW
set_option maxRecDepth 100000 in
theorem kc_X7_undefine : cw_X7_undefine ∈ mm_GW := mm_in (List.mem_of_getElem? (i := 580) rfl) rfl
abbrev c_X7_step : ByteArray := prog_9_method_10_code
abbrev y_X7_step : MethodName := ⟨"RulePayrollModel", "step", "(III)I"⟩
abbrev cw_X7_step : Cond := .code y_X7_step c_X7_step 4 (some .int)
def w_X7_step : List Cond := cw_X7_step :: mm_GW
set_option maxRecDepth 100000 in
theorem kc_X7_step : cw_X7_step ∈ mm_GW := mm_in (List.mem_of_getElem? (i := 584) rfl) rfl
abbrev c_X7_clear : ByteArray := prog_9_method_11_code
abbrev y_X7_clear : MethodName := ⟨"RulePayrollModel", "clear", "(I)I"⟩
abbrev cw_X7_clear : Cond := .code y_X7_clear c_X7_clear 3 (some .int)
def w_X7_clear : List Cond := cw_X7_clear :: mm_GW
set_option maxRecDepth 100000 in
theorem kc_X7_clear : cw_X7_clear ∈ mm_GW := mm_in (List.mem_of_getElem? (i := 588) rfl) rfl
abbrev c_X7_input : ByteArray := prog_9_method_12_code
abbrev y_X7_input : MethodName := ⟨"RulePayrollModel", "input", "(III)I"⟩
abbrev cw_X7_input : Cond := .code y_X7_input c_X7_input 4 (some .int)
def w_X7_input : List Cond := cw_X7_input :: mm_GW
set_option maxRecDepth 100000 in
theorem kc_X7_input : cw_X7_input ∈ mm_GW := mm_in (List.mem_of_getElem? (i := 592) rfl) rfl
abbrev c_X7_activate : ByteArray := prog_9_method_13_code
abbrev y_X7_activate : MethodName := ⟨"RulePayrollModel", "activate", "(IZ)I"⟩
abbrev cw_X7_activate : Cond := .code y_X7_activate c_X7_activate 3 (some .int)
def w_X7_activate : List Cond := cw_X7_activate :: mm_GW
set_option maxRecDepth 100000 in
theorem kc_X7_activate : cw_X7_activate ∈ mm_GW := mm_in (List.mem_of_getElem? (i := 596) rfl) rfl
abbrev c_X7_whole : ByteArray := prog_9_method_14_code
abbrev y_X7_whole : MethodName := ⟨"RulePayrollModel", "whole", "(J)Z"⟩
abbrev cw_X7_whole : Cond := .code y_X7_whole c_X7_whole 3 (some .boolean)
def w_X7_whole : List Cond := cw_X7_whole :: mm_GW
set_option maxRecDepth 100000 in
theorem kc_X7_whole : cw_X7_whole ∈ mm_GW := mm_in (List.mem_of_getElem? (i := 608) rfl) rfl
abbrev c_X7_ranged : ByteArray := prog_9_method_15_code
abbrev y_X7_ranged : MethodName := ⟨"RulePayrollModel", "ranged", "(J)J"⟩
abbrev cw_X7_ranged : Cond := .code y_X7_ranged c_X7_ranged 3 (some .long)
def w_X7_ranged : List Cond := cw_X7_ranged :: mm_GW
set_option maxRecDepth 100000 in
theorem kc_X7_ranged : cw_X7_ranged ∈ mm_GW := mm_in (List.mem_of_getElem? (i := 645) rfl) rfl
abbrev c_X7_rounded : ByteArray := prog_9_method_16_code
abbrev y_X7_rounded : MethodName := ⟨"RulePayrollModel", "rounded", "(JJ)J"⟩
abbrev cw_X7_rounded : Cond := .code y_X7_rounded c_X7_rounded 13 (some .long)
def w_X7_rounded : List Cond := cw_X7_rounded :: mm_GW
set_option maxRecDepth 100000 in
theorem kc_X7_rounded : cw_X7_rounded ∈ mm_GW := mm_in (List.mem_of_getElem? (i := 640) rfl) rfl
abbrev c_X7_stops : ByteArray := prog_9_method_17_code
abbrev y_X7_stops : MethodName := ⟨"RulePayrollModel", "stops", "(J)J"⟩
abbrev cw_X7_stops : Cond := .code y_X7_stops c_X7_stops 3 (some .long)
def w_X7_stops : List Cond := cw_X7_stops :: mm_GW
set_option maxRecDepth 100000 in
theorem kc_X7_stops : cw_X7_stops ∈ mm_GW := mm_in (List.mem_of_getElem? (i := 631) rfl) rfl
abbrev c_X7_scale : ByteArray := prog_9_method_18_code
abbrev y_X7_scale : MethodName := ⟨"RulePayrollModel", "scale", "(IJ)J"⟩
abbrev cw_X7_scale : Cond := .code y_X7_scale c_X7_scale 11 (some .long)
def w_X7_scale : List Cond := cw_X7_scale :: mm_GW
set_option maxRecDepth 100000 in
theorem kc_X7_scale : cw_X7_scale ∈ mm_GW := mm_in (List.mem_of_getElem? (i := 635) rfl) rfl
abbrev c_X7_plain : ByteArray := prog_9_method_19_code
abbrev y_X7_plain : MethodName := ⟨"RulePayrollModel", "plain", "(IJJ)J"⟩
abbrev cw_X7_plain : Cond := .code y_X7_plain c_X7_plain 6 (some .long)
def w_X7_plain : List Cond := cw_X7_plain :: mm_GW
set_option maxRecDepth 100000 in
theorem kc_X7_plain : cw_X7_plain ∈ mm_GW := mm_in (List.mem_of_getElem? (i := 650) rfl) rfl
abbrev c_X7_choose : ByteArray := prog_9_method_20_code
abbrev y_X7_choose : MethodName := ⟨"RulePayrollModel", "choose", "(II)J"⟩
abbrev cw_X7_choose : Cond := .code y_X7_choose c_X7_choose 7 (some .long)
def w_X7_choose : List Cond := cw_X7_choose :: mm_GW
set_option maxRecDepth 100000 in
theorem kc_X7_choose : cw_X7_choose ∈ mm_GW := mm_in (List.mem_of_getElem? (i := 624) rfl) rfl
abbrev c_X7_workOut : ByteArray := prog_9_method_21_code
abbrev y_X7_workOut : MethodName := ⟨"RulePayrollModel", "workOut", "(II)J"⟩
abbrev cw_X7_workOut : Cond := .code y_X7_workOut c_X7_workOut 11 (some .long)
def w_X7_workOut : List Cond := cw_X7_workOut :: mm_GW
set_option maxRecDepth 100000 in
theorem kc_X7_workOut : cw_X7_workOut ∈ mm_GW := mm_in (List.mem_of_getElem? (i := 620) rfl) rfl
abbrev c_X7_person : ByteArray := prog_9_method_22_code
abbrev y_X7_person : MethodName := ⟨"RulePayrollModel", "person", "(I)V"⟩
abbrev cw_X7_person : Cond := .code y_X7_person c_X7_person 4 none
def w_X7_person : List Cond := cw_X7_person :: mm_GW
set_option maxRecDepth 100000 in
theorem kc_X7_person : cw_X7_person ∈ mm_GW := mm_in (List.mem_of_getElem? (i := 615) rfl) rfl
abbrev c_X7_paidWhole : ByteArray := prog_9_method_23_code
abbrev y_X7_paidWhole : MethodName := ⟨"RulePayrollModel", "paidWhole", "(I)Z"⟩
abbrev cw_X7_paidWhole : Cond := .code y_X7_paidWhole c_X7_paidWhole 2 (some .boolean)
def w_X7_paidWhole : List Cond := cw_X7_paidWhole :: mm_GW
set_option maxRecDepth 100000 in
theorem kc_X7_paidWhole : cw_X7_paidWhole ∈ mm_GW := mm_in (List.mem_of_getElem? (i := 604) rfl) rfl
abbrev c_X7_value : ByteArray := prog_9_method_24_code
abbrev y_X7_value : MethodName := ⟨"RulePayrollModel", "value", "(II)J"⟩
abbrev cw_X7_value : Cond := .code y_X7_value c_X7_value 3 (some .long)
def w_X7_value : List Cond := cw_X7_value :: mm_GW
set_option maxRecDepth 100000 in
theorem kc_X7_value : cw_X7_value ∈ mm_GW := mm_in (List.mem_of_getElem? (i := 600) rfl) rfl
abbrev c_X7_payOne : ByteArray := prog_9_method_25_code
abbrev y_X7_payOne : MethodName := ⟨"RulePayrollModel", "payOne", "(II)I"⟩
abbrev cw_X7_payOne : Cond := .code y_X7_payOne c_X7_payOne 4 (some .int)
def w_X7_payOne : List Cond := cw_X7_payOne :: mm_GW
set_option maxRecDepth 100000 in
theorem kc_X7_payOne : cw_X7_payOne ∈ mm_GW := mm_in (List.mem_of_getElem? (i := 662) rfl) rfl
abbrev c_X7_payAll : ByteArray := prog_9_method_26_code
abbrev y_X7_payAll : MethodName := ⟨"RulePayrollModel", "payAll", "(I)V"⟩
abbrev cw_X7_payAll : Cond := .code y_X7_payAll c_X7_payAll 3 none
def w_X7_payAll : List Cond := cw_X7_payAll :: mm_GW
set_option maxRecDepth 100000 in
theorem kc_X7_payAll : cw_X7_payAll ∈ mm_GW := mm_in (List.mem_of_getElem? (i := 658) rfl) rfl
abbrev c_X7_pay : ByteArray := prog_9_method_27_code
abbrev y_X7_pay : MethodName := ⟨"RulePayrollModel", "pay", "()I"⟩
abbrev cw_X7_pay : Cond := .code y_X7_pay c_X7_pay 1 (some .int)
def w_X7_pay : List Cond := cw_X7_pay :: mm_GW
set_option maxRecDepth 100000 in
theorem kc_X7_pay : cw_X7_pay ∈ mm_GW := mm_in (List.mem_of_getElem? (i := 654) rfl) rfl
abbrev c_X7_takeBack : ByteArray := prog_9_method_28_code
abbrev y_X7_takeBack : MethodName := ⟨"RulePayrollModel", "takeBack", "(I)V"⟩
abbrev cw_X7_takeBack : Cond := .code y_X7_takeBack c_X7_takeBack 4 none
def w_X7_takeBack : List Cond := cw_X7_takeBack :: mm_GW
set_option maxRecDepth 100000 in
theorem kc_X7_takeBack : cw_X7_takeBack ∈ mm_GW := mm_in (List.mem_of_getElem? (i := 670) rfl) rfl
abbrev c_X7_back : ByteArray := prog_9_method_29_code
abbrev y_X7_back : MethodName := ⟨"RulePayrollModel", "back", "(I)I"⟩
abbrev cw_X7_back : Cond := .code y_X7_back c_X7_back 2 (some .int)
def w_X7_back : List Cond := cw_X7_back :: mm_GW
set_option maxRecDepth 100000 in
theorem kc_X7_back : cw_X7_back ∈ mm_GW := mm_in (List.mem_of_getElem? (i := 666) rfl) rfl
abbrev c_X7_slips : ByteArray := prog_9_method_30_code
abbrev y_X7_slips : MethodName := ⟨"RulePayrollModel", "slips", "(I)I"⟩
abbrev cw_X7_slips : Cond := .code y_X7_slips c_X7_slips 4 (some .int)
def w_X7_slips : List Cond := cw_X7_slips :: mm_GW
set_option maxRecDepth 100000 in
theorem kc_X7_slips : cw_X7_slips ∈ mm_GW := mm_in (List.mem_of_getElem? (i := 678) rfl) rfl
abbrev c_X7_again : ByteArray := prog_9_method_31_code
abbrev y_X7_again : MethodName := ⟨"RulePayrollModel", "again", "(I)I"⟩
abbrev cw_X7_again : Cond := .code y_X7_again c_X7_again 2 (some .int)
def w_X7_again : List Cond := cw_X7_again :: mm_GW
set_option maxRecDepth 100000 in
theorem kc_X7_again : cw_X7_again ∈ mm_GW := mm_in (List.mem_of_getElem? (i := 674) rfl) rfl
abbrev c_X7_slip : ByteArray := prog_9_method_32_code
abbrev y_X7_slip : MethodName := ⟨"RulePayrollModel", "slip", "(III)J"⟩
abbrev cw_X7_slip : Cond := .code y_X7_slip c_X7_slip 4 (some .long)
def w_X7_slip : List Cond := cw_X7_slip :: mm_GW
set_option maxRecDepth 100000 in
theorem kc_X7_slip : cw_X7_slip ∈ mm_GW := mm_in (List.mem_of_getElem? (i := 682) rfl) rfl
abbrev c_X7_held : ByteArray := prog_9_method_33_code
abbrev y_X7_held : MethodName := ⟨"RulePayrollModel", "held", "(II)I"⟩
abbrev cw_X7_held : Cond := .code y_X7_held c_X7_held 3 (some .int)
def w_X7_held : List Cond := cw_X7_held :: mm_GW
set_option maxRecDepth 100000 in
theorem kc_X7_held : cw_X7_held ∈ mm_GW := mm_in (List.mem_of_getElem? (i := 686) rfl) rfl
abbrev c_X7_account : ByteArray := prog_9_method_34_code
abbrev y_X7_account : MethodName := ⟨"RulePayrollModel", "account", "(I)J"⟩
abbrev cw_X7_account : Cond := .code y_X7_account c_X7_account 6 (some .long)
def w_X7_account : List Cond := cw_X7_account :: mm_GW
set_option maxRecDepth 100000 in
theorem kc_X7_account : cw_X7_account ∈ mm_GW := mm_in (List.mem_of_getElem? (i := 690) rfl) rfl
abbrev c_X7_paid : ByteArray := prog_9_method_35_code
abbrev y_X7_paid : MethodName := ⟨"RulePayrollModel", "paid", "(II)J"⟩
abbrev cw_X7_paid : Cond := .code y_X7_paid c_X7_paid 3 (some .long)
def w_X7_paid : List Cond := cw_X7_paid :: mm_GW
set_option maxRecDepth 100000 in
theorem kc_X7_paid : cw_X7_paid ∈ mm_GW := mm_in (List.mem_of_getElem? (i := 694) rfl) rfl
abbrev c_X7_count : ByteArray := prog_9_method_36_code
abbrev y_X7_count : MethodName := ⟨"RulePayrollModel", "count", "(I)I"⟩
abbrev cw_X7_count : Cond := .code y_X7_count c_X7_count 7 (some .int)
def w_X7_count : List Cond := cw_X7_count :: mm_GW
set_option maxRecDepth 100000 in
theorem kc_X7_count : cw_X7_count ∈ mm_GW := mm_in (List.mem_of_getElem? (i := 698) rfl) rfl
abbrev c_X0_init : ByteArray := prog_2_method_1_code
abbrev y_X0_init : MethodName := ⟨"RulePayroll$Nodes", "<init>", "()V"⟩
abbrev cw_X0_init : Cond := .code y_X0_init c_X0_init 1 none
def w_X0_init : List Cond := cw_X0_init :: mm_GW
set_option maxRecDepth 100000 in
theorem kc_X0_init : cw_X0_init ∈ mm_GW := mm_in (List.mem_of_getElem? (i := 60) rfl) rfl
abbrev c_X0_has : ByteArray := prog_2_method_2_code
abbrev y_X0_has : MethodName := ⟨"RulePayroll$Nodes", "has", "(I)Z"⟩
abbrev cw_X0_has : Cond := .code y_X0_has c_X0_has 2 (some .boolean)
def w_X0_has : List Cond := cw_X0_has :: mm_GW
set_option maxRecDepth 100000 in
theorem kc_X0_has : cw_X0_has ∈ mm_GW := mm_in (List.mem_of_getElem? (i := 212) rfl) rfl
abbrev c_X0_make : ByteArray := prog_2_method_3_code
abbrev y_X0_make : MethodName := ⟨"RulePayroll$Nodes", "make", "(IIII)I"⟩
abbrev cw_X0_make : Cond := .code y_X0_make c_X0_make 11 (some .int)
def w_X0_make : List Cond := cw_X0_make :: mm_GW
set_option maxRecDepth 100000 in
theorem kc_X0_make : cw_X0_make ∈ mm_GW := mm_in (List.mem_of_getElem? (i := 197) rfl) rfl
abbrev c_X0_takesNode : ByteArray := prog_2_method_4_code
abbrev y_X0_takesNode : MethodName := ⟨"RulePayroll$Nodes", "takesNode", "(II)Z"⟩
abbrev cw_X0_takesNode : Cond := .code y_X0_takesNode c_X0_takesNode 2 (some .boolean)
def w_X0_takesNode : List Cond := cw_X0_takesNode :: mm_GW
set_option maxRecDepth 100000 in
theorem kc_X0_takesNode : cw_X0_takesNode ∈ mm_GW := mm_in (List.mem_of_getElem? (i := 215) rfl) rfl
abbrev c_X0_operandsFit : ByteArray := prog_2_method_5_code
abbrev y_X0_operandsFit : MethodName := ⟨"RulePayroll$Nodes", "operandsFit", "(IIII)Z"⟩
abbrev cw_X0_operandsFit : Cond := .code y_X0_operandsFit c_X0_operandsFit 5 (some .boolean)
def w_X0_operandsFit : List Cond := cw_X0_operandsFit :: mm_GW
set_option maxRecDepth 100000 in
theorem kc_X0_operandsFit : cw_X0_operandsFit ∈ mm_GW := mm_in (List.mem_of_getElem? (i := 204) rfl) rfl
abbrev c_X0_firstFits : ByteArray := prog_2_method_6_code
abbrev y_X0_firstFits : MethodName := ⟨"RulePayroll$Nodes", "firstFits", "(II)Z"⟩
abbrev cw_X0_firstFits : Cond := .code y_X0_firstFits c_X0_firstFits 3 (some .boolean)
def w_X0_firstFits : List Cond := cw_X0_firstFits :: mm_GW
set_option maxRecDepth 100000 in
theorem kc_X0_firstFits : cw_X0_firstFits ∈ mm_GW := mm_in (List.mem_of_getElem? (i := 208) rfl) rfl
abbrev c_X0_levelOf : ByteArray := prog_2_method_7_code
abbrev y_X0_levelOf : MethodName := ⟨"RulePayroll$Nodes", "levelOf", "(I)I"⟩
abbrev cw_X0_levelOf : Cond := .code y_X0_levelOf c_X0_levelOf 2 (some .int)
def w_X0_levelOf : List Cond := cw_X0_levelOf :: mm_GW
set_option maxRecDepth 100000 in
theorem kc_X0_levelOf : cw_X0_levelOf ∈ mm_GW := mm_in (List.mem_of_getElem? (i := 221) rfl) rfl
abbrev c_X0_rankOf : ByteArray := prog_2_method_8_code
abbrev y_X0_rankOf : MethodName := ⟨"RulePayroll$Nodes", "rankOf", "(I)I"⟩
abbrev cw_X0_rankOf : Cond := .code y_X0_rankOf c_X0_rankOf 2 (some .int)
def w_X0_rankOf : List Cond := cw_X0_rankOf :: mm_GW
set_option maxRecDepth 100000 in
theorem kc_X0_rankOf : cw_X0_rankOf ∈ mm_GW := mm_in (List.mem_of_getElem? (i := 228) rfl) rfl
abbrev c_X0_putInOrder : ByteArray := prog_2_method_9_code
abbrev y_X0_putInOrder : MethodName := ⟨"RulePayroll$Nodes", "putInOrder", "(I)V"⟩
abbrev cw_X0_putInOrder : Cond := .code y_X0_putInOrder c_X0_putInOrder 3 none
def w_X0_putInOrder : List Cond := cw_X0_putInOrder :: mm_GW
set_option maxRecDepth 100000 in
theorem kc_X0_putInOrder : cw_X0_putInOrder ∈ mm_GW := mm_in (List.mem_of_getElem? (i := 232) rfl) rfl
abbrev c_X1_init : ByteArray := prog_3_method_1_code
abbrev y_X1_init : MethodName := ⟨"RulePayroll$Person", "<init>", "()V"⟩
abbrev cw_X1_init : Cond := .code y_X1_init c_X1_init 1 none
def w_X1_init : List Cond := cw_X1_init :: mm_GW
set_option maxRecDepth 100000 in
theorem kc_X1_init : cw_X1_init ∈ mm_GW := mm_in (List.mem_of_getElem? (i := 140) rfl) rfl
abbrev c_X1_paidSoFar : ByteArray := prog_3_method_2_code
abbrev y_X1_paidSoFar : MethodName := ⟨"RulePayroll$Person", "paidSoFar", "(I)J"⟩
abbrev cw_X1_paidSoFar : Cond := .code y_X1_paidSoFar c_X1_paidSoFar 2 (some .long)
def w_X1_paidSoFar : List Cond := cw_X1_paidSoFar :: mm_GW
set_option maxRecDepth 100000 in
theorem kc_X1_paidSoFar : cw_X1_paidSoFar ∈ mm_GW := mm_in (List.mem_of_getElem? (i := 301) rfl) rfl
abbrev c_X1_paidIsInt : ByteArray := prog_3_method_3_code
abbrev y_X1_paidIsInt : MethodName := ⟨"RulePayroll$Person", "paidIsInt", "()Z"⟩
abbrev cw_X1_paidIsInt : Cond := .code y_X1_paidIsInt c_X1_paidIsInt 1 (some .boolean)
def w_X1_paidIsInt : List Cond := cw_X1_paidIsInt :: mm_GW
set_option maxRecDepth 100000 in
theorem kc_X1_paidIsInt : cw_X1_paidIsInt ∈ mm_GW := mm_in (List.mem_of_getElem? (i := 274) rfl) rfl
abbrev c_X1_grow : ByteArray := prog_3_method_4_code
abbrev y_X1_grow : MethodName := ⟨"RulePayroll$Person", "grow", "(JJ)V"⟩
abbrev cw_X1_grow : Cond := .code y_X1_grow c_X1_grow 5 none
def w_X1_grow : List Cond := cw_X1_grow :: mm_GW
set_option maxRecDepth 100000 in
theorem kc_X1_grow : cw_X1_grow ∈ mm_GW := mm_in (List.mem_of_getElem? (i := 396) rfl) rfl
abbrev c_X1_reasonToHold : ByteArray := prog_3_method_5_code
abbrev y_X1_reasonToHold : MethodName := ⟨"RulePayroll$Person", "reasonToHold", "(JJJ)I"⟩
abbrev cw_X1_reasonToHold : Cond := .code y_X1_reasonToHold c_X1_reasonToHold 7 (some .int)
def w_X1_reasonToHold : List Cond := cw_X1_reasonToHold :: mm_GW
set_option maxRecDepth 100000 in
theorem kc_X1_reasonToHold : cw_X1_reasonToHold ∈ mm_GW := mm_in (List.mem_of_getElem? (i := 386) rfl) rfl
abbrev c_X1_reasonOf : ByteArray := prog_3_method_6_code
abbrev y_X1_reasonOf : MethodName := ⟨"RulePayroll$Person", "reasonOf", "(J)I"⟩
abbrev cw_X1_reasonOf : Cond := .code y_X1_reasonOf c_X1_reasonOf 2 (some .int)
def w_X1_reasonOf : List Cond := cw_X1_reasonOf :: mm_GW
set_option maxRecDepth 100000 in
theorem kc_X1_reasonOf : cw_X1_reasonOf ∈ mm_GW := mm_in (List.mem_of_getElem? (i := 389) rfl) rfl
abbrev c_X2_init : ByteArray := prog_4_method_1_code
abbrev y_X2_init : MethodName := ⟨"RulePayroll$Rules", "<init>", "()V"⟩
abbrev cw_X2_init : Cond := .code y_X2_init c_X2_init 2 none
def w_X2_init : List Cond := cw_X2_init :: mm_GW
set_option maxRecDepth 100000 in
theorem kc_X2_init : cw_X2_init ∈ mm_GW := mm_in (List.mem_of_getElem? (i := 54) rfl) rfl
abbrev c_X2_definitionBits : ByteArray := prog_4_method_2_code
abbrev y_X2_definitionBits : MethodName := ⟨"RulePayroll$Rules", "definitionBits", "()I"⟩
abbrev cw_X2_definitionBits : Cond := .code y_X2_definitionBits c_X2_definitionBits 3 (some .int)
def w_X2_definitionBits : List Cond := cw_X2_definitionBits :: mm_GW
set_option maxRecDepth 100000 in
theorem kc_X2_definitionBits : cw_X2_definitionBits ∈ mm_GW := mm_in (List.mem_of_getElem? (i := 478) rfl) rfl
abbrev c_X2_workOutFor : ByteArray := prog_4_method_3_code
abbrev y_X2_workOutFor : MethodName := ⟨"RulePayroll$Rules", "workOutFor", "(LRulePayroll$Person;)V"⟩
abbrev cw_X2_workOutFor : Cond := .code y_X2_workOutFor c_X2_workOutFor 4 none
def w_X2_workOutFor : List Cond := cw_X2_workOutFor :: mm_GW
set_option maxRecDepth 100000 in
theorem kc_X2_workOutFor : cw_X2_workOutFor ∈ mm_GW := mm_in (List.mem_of_getElem? (i := 284) rfl) rfl
abbrev c_X2_workedDefinition : ByteArray := prog_4_method_4_code
abbrev y_X2_workedDefinition : MethodName := ⟨"RulePayroll$Rules", "workedDefinition", "(I)J"⟩
abbrev cw_X2_workedDefinition : Cond := .code y_X2_workedDefinition c_X2_workedDefinition 2 (some .long)
def w_X2_workedDefinition : List Cond := cw_X2_workedDefinition :: mm_GW
set_option maxRecDepth 100000 in
theorem kc_X2_workedDefinition : cw_X2_workedDefinition ∈ mm_GW := mm_in (List.mem_of_getElem? (i := 292) rfl) rfl
abbrev c_X2_workedOrEmpty : ByteArray := prog_4_method_5_code
abbrev y_X2_workedOrEmpty : MethodName := ⟨"RulePayroll$Rules", "workedOrEmpty", "(I)J"⟩
abbrev cw_X2_workedOrEmpty : Cond := .code y_X2_workedOrEmpty c_X2_workedOrEmpty 2 (some .long)
def w_X2_workedOrEmpty : List Cond := cw_X2_workedOrEmpty :: mm_GW
set_option maxRecDepth 100000 in
theorem kc_X2_workedOrEmpty : cw_X2_workedOrEmpty ∈ mm_GW := mm_in (List.mem_of_getElem? (i := 296) rfl) rfl
abbrev c_X2_workedOut : ByteArray := prog_4_method_6_code
abbrev y_X2_workedOut : MethodName := ⟨"RulePayroll$Rules", "workedOut", "(ILRulePayroll$Person;)J"⟩
abbrev cw_X2_workedOut : Cond := .code y_X2_workedOut c_X2_workedOut 7 (some .long)
def w_X2_workedOut : List Cond := cw_X2_workedOut :: mm_GW
set_option maxRecDepth 100000 in
theorem kc_X2_workedOut : cw_X2_workedOut ∈ mm_GW := mm_in (List.mem_of_getElem? (i := 288) rfl) rfl
abbrev c_X3_init : ByteArray := prog_5_method_1_code
abbrev y_X3_init : MethodName := ⟨"RulePayroll$Runs", "<init>", "()V"⟩
abbrev cw_X3_init : Cond := .code y_X3_init c_X3_init 1 none
def w_X3_init : List Cond := cw_X3_init :: mm_GW
set_option maxRecDepth 100000 in
theorem kc_X3_init : cw_X3_init ∈ mm_GW := mm_in (List.mem_of_getElem? (i := 161) rfl) rfl
abbrev c_X3_has : ByteArray := prog_5_method_2_code
abbrev y_X3_has : MethodName := ⟨"RulePayroll$Runs", "has", "(I)Z"⟩
abbrev cw_X3_has : Cond := .code y_X3_has c_X3_has 2 (some .boolean)
def w_X3_has : List Cond := cw_X3_has :: mm_GW
set_option maxRecDepth 100000 in
theorem kc_X3_has : cw_X3_has ∈ mm_GW := mm_in (List.mem_of_getElem? (i := 408) rfl) rfl
abbrev c_X3_stands : ByteArray := prog_5_method_3_code
abbrev y_X3_stands : MethodName := ⟨"RulePayroll$Runs", "stands", "(I)Z"⟩
abbrev cw_X3_stands : Cond := .code y_X3_stands c_X3_stands 2 (some .boolean)
def w_X3_stands : List Cond := cw_X3_stands :: mm_GW
set_option maxRecDepth 100000 in
theorem kc_X3_stands : cw_X3_stands ∈ mm_GW := mm_in (List.mem_of_getElem? (i := 404) rfl) rfl
abbrev c_X3_amountOf : ByteArray := prog_5_method_4_code
abbrev y_X3_amountOf : MethodName := ⟨"RulePayroll$Runs", "amountOf", "(III)J"⟩
abbrev cw_X3_amountOf : Cond := .code y_X3_amountOf c_X3_amountOf 4 (some .long)
def w_X3_amountOf : List Cond := cw_X3_amountOf :: mm_GW
set_option maxRecDepth 100000 in
theorem kc_X3_amountOf : cw_X3_amountOf ∈ mm_GW := mm_in (List.mem_of_getElem? (i := 421) rfl) rfl
abbrev c_X3_hasSlip : ByteArray := prog_5_method_5_code
abbrev y_X3_hasSlip : MethodName := ⟨"RulePayroll$Runs", "hasSlip", "(II)Z"⟩
abbrev cw_X3_hasSlip : Cond := .code y_X3_hasSlip c_X3_hasSlip 3 (some .boolean)
def w_X3_hasSlip : List Cond := cw_X3_hasSlip :: mm_GW
set_option maxRecDepth 100000 in
theorem kc_X3_hasSlip : cw_X3_hasSlip ∈ mm_GW := mm_in (List.mem_of_getElem? (i := 417) rfl) rfl
abbrev c_X3_placeOf : ByteArray := prog_5_method_6_code
abbrev y_X3_placeOf : MethodName := ⟨"RulePayroll$Runs", "placeOf", "(II)I"⟩
abbrev cw_X3_placeOf : Cond := .code y_X3_placeOf c_X3_placeOf 2 (some .int)
def w_X3_placeOf : List Cond := cw_X3_placeOf :: mm_GW
set_option maxRecDepth 100000 in
theorem kc_X3_placeOf : cw_X3_placeOf ∈ mm_GW := mm_in (List.mem_of_getElem? (i := 372) rfl) rfl
abbrev c_X3_wipe : ByteArray := prog_5_method_7_code
abbrev y_X3_wipe : MethodName := ⟨"RulePayroll$Runs", "wipe", "(II)V"⟩
abbrev cw_X3_wipe : Cond := .code y_X3_wipe c_X3_wipe 3 none
def w_X3_wipe : List Cond := cw_X3_wipe :: mm_GW
set_option maxRecDepth 100000 in
theorem kc_X3_wipe : cw_X3_wipe ∈ mm_GW := mm_in (List.mem_of_getElem? (i := 364) rfl) rfl
abbrev c_X3_writeSlip : ByteArray := prog_5_method_8_code
abbrev y_X3_writeSlip : MethodName := ⟨"RulePayroll$Runs", "writeSlip", "(IIJJJ)V"⟩
abbrev cw_X3_writeSlip : Cond := .code y_X3_writeSlip c_X3_writeSlip 10 none
def w_X3_writeSlip : List Cond := cw_X3_writeSlip :: mm_GW
set_option maxRecDepth 100000 in
theorem kc_X3_writeSlip : cw_X3_writeSlip ∈ mm_GW := mm_in (List.mem_of_getElem? (i := 369) rfl) rfl
abbrev c_X3_hold : ByteArray := prog_5_method_9_code
abbrev y_X3_hold : MethodName := ⟨"RulePayroll$Runs", "hold", "(III)V"⟩
abbrev cw_X3_hold : Cond := .code y_X3_hold c_X3_hold 4 none
def w_X3_hold : List Cond := cw_X3_hold :: mm_GW
set_option maxRecDepth 100000 in
theorem kc_X3_hold : cw_X3_hold ∈ mm_GW := mm_in (List.mem_of_getElem? (i := 376) rfl) rfl
abbrev c_X3_slipsOf : ByteArray := prog_5_method_10_code
abbrev y_X3_slipsOf : MethodName := ⟨"RulePayroll$Runs", "slipsOf", "(I)I"⟩
abbrev cw_X3_slipsOf : Cond := .code y_X3_slipsOf c_X3_slipsOf 4 (some .int)
def w_X3_slipsOf : List Cond := cw_X3_slipsOf :: mm_GW
set_option maxRecDepth 100000 in
theorem kc_X3_slipsOf : cw_X3_slipsOf ∈ mm_GW := mm_in (List.mem_of_getElem? (i := 429) rfl) rfl
abbrev c_X3_slipsStanding : ByteArray := prog_5_method_11_code
abbrev y_X3_slipsStanding : MethodName := ⟨"RulePayroll$Runs", "slipsStanding", "()I"⟩
abbrev cw_X3_slipsStanding : Cond := .code y_X3_slipsStanding c_X3_slipsStanding 3 (some .int)
def w_X3_slipsStanding : List Cond := cw_X3_slipsStanding :: mm_GW
set_option maxRecDepth 100000 in
theorem kc_X3_slipsStanding : cw_X3_slipsStanding ∈ mm_GW := mm_in (List.mem_of_getElem? (i := 469) rfl) rfl
abbrev c_X3_howManyTakenBack : ByteArray := prog_5_method_12_code
abbrev y_X3_howManyTakenBack : MethodName := ⟨"RulePayroll$Runs", "howManyTakenBack", "()I"⟩
abbrev cw_X3_howManyTakenBack : Cond := .code y_X3_howManyTakenBack c_X3_howManyTakenBack 3 (some .int)
def w_X3_howManyTakenBack : List Cond := cw_X3_howManyTakenBack :: mm_GW
set_option maxRecDepth 100000 in
theorem kc_X3_howManyTakenBack : cw_X3_howManyTakenBack ∈ mm_GW := mm_in (List.mem_of_getElem? (i := 465) rfl) rfl
abbrev c_X3_totalOf : ByteArray := prog_5_method_13_code
abbrev y_X3_totalOf : MethodName := ⟨"RulePayroll$Runs", "totalOf", "(I)J"⟩
abbrev cw_X3_totalOf : Cond := .code y_X3_totalOf c_X3_totalOf 5 (some .long)
def w_X3_totalOf : List Cond := cw_X3_totalOf :: mm_GW
set_option maxRecDepth 100000 in
theorem kc_X3_totalOf : cw_X3_totalOf ∈ mm_GW := mm_in (List.mem_of_getElem? (i := 447) rfl) rfl
abbrev c_X3_totalOfRun : ByteArray := prog_5_method_14_code
abbrev y_X3_totalOfRun : MethodName := ⟨"RulePayroll$Runs", "totalOfRun", "(II)J"⟩
abbrev cw_X3_totalOfRun : Cond := .code y_X3_totalOfRun c_X3_totalOfRun 6 (some .long)
def w_X3_totalOfRun : List Cond := cw_X3_totalOfRun :: mm_GW
set_option maxRecDepth 100000 in
theorem kc_X3_totalOfRun : cw_X3_totalOfRun ∈ mm_GW := mm_in (List.mem_of_getElem? (i := 451) rfl) rfl
abbrev c_X4_init : ByteArray := prog_6_method_1_code
abbrev y_X4_init : MethodName := ⟨"RulePayroll$Table", "<init>", "()V"⟩
abbrev cw_X4_init : Cond := .code y_X4_init c_X4_init 1 none
def w_X4_init : List Cond := cw_X4_init :: mm_GW
set_option maxRecDepth 100000 in
theorem kc_X4_init : cw_X4_init ∈ mm_GW := mm_in (List.mem_of_getElem? (i := 104) rfl) rfl
abbrev c_X4_addStep : ByteArray := prog_6_method_2_code
abbrev y_X4_addStep : MethodName := ⟨"RulePayroll$Table", "addStep", "(II)I"⟩
abbrev cw_X4_addStep : Cond := .code y_X4_addStep c_X4_addStep 4 (some .int)
def w_X4_addStep : List Cond := cw_X4_addStep :: mm_GW
set_option maxRecDepth 100000 in
theorem kc_X4_addStep : cw_X4_addStep ∈ mm_GW := mm_in (List.mem_of_getElem? (i := 250) rfl) rfl
abbrev c_X4_loseSteps : ByteArray := prog_6_method_3_code
abbrev y_X4_loseSteps : MethodName := ⟨"RulePayroll$Table", "loseSteps", "()I"⟩
abbrev cw_X4_loseSteps : Cond := .code y_X4_loseSteps c_X4_loseSteps 2 (some .int)
def w_X4_loseSteps : List Cond := cw_X4_loseSteps :: mm_GW
set_option maxRecDepth 100000 in
theorem kc_X4_loseSteps : cw_X4_loseSteps ∈ mm_GW := mm_in (List.mem_of_getElem? (i := 258) rfl) rfl
abbrev c_X4_scaled : ByteArray := prog_6_method_4_code
abbrev y_X4_scaled : MethodName := ⟨"RulePayroll$Table", "scaled", "(J)J"⟩
abbrev cw_X4_scaled : Cond := .code y_X4_scaled c_X4_scaled 10 (some .long)
def w_X4_scaled : List Cond := cw_X4_scaled :: mm_GW
set_option maxRecDepth 100000 in
theorem kc_X4_scaled : cw_X4_scaled ∈ mm_GW := mm_in (List.mem_of_getElem? (i := 342) rfl) rfl
abbrev c_X5_isInt : ByteArray := prog_7_method_2_code
abbrev y_X5_isInt : MethodName := ⟨"RulePayroll$Values", "isInt", "(J)Z"⟩
abbrev cw_X5_isInt : Cond := .code y_X5_isInt c_X5_isInt 2 (some .boolean)
def w_X5_isInt : List Cond := cw_X5_isInt :: mm_GW
set_option maxRecDepth 100000 in
theorem kc_X5_isInt : cw_X5_isInt ∈ mm_GW := mm_in (List.mem_of_getElem? (i := 277) rfl) rfl
abbrev c_X5_faultOf : ByteArray := prog_7_method_3_code
abbrev y_X5_faultOf : MethodName := ⟨"RulePayroll$Values", "faultOf", "(J)J"⟩
abbrev cw_X5_faultOf : Cond := .code y_X5_faultOf c_X5_faultOf 2 (some .long)
def w_X5_faultOf : List Cond := cw_X5_faultOf :: mm_GW
set_option maxRecDepth 100000 in
theorem kc_X5_faultOf : cw_X5_faultOf ∈ mm_GW := mm_in (List.mem_of_getElem? (i := 308) rfl) rfl
abbrev c_X5_truthOf : ByteArray := prog_7_method_4_code
abbrev y_X5_truthOf : MethodName := ⟨"RulePayroll$Values", "truthOf", "(J)J"⟩
abbrev cw_X5_truthOf : Cond := .code y_X5_truthOf c_X5_truthOf 2 (some .long)
def w_X5_truthOf : List Cond := cw_X5_truthOf :: mm_GW
set_option maxRecDepth 100000 in
theorem kc_X5_truthOf : cw_X5_truthOf ∈ mm_GW := mm_in (List.mem_of_getElem? (i := 325) rfl) rfl
abbrev c_X5_not : ByteArray := prog_7_method_5_code
abbrev y_X5_not : MethodName := ⟨"RulePayroll$Values", "not", "(J)J"⟩
abbrev cw_X5_not : Cond := .code y_X5_not c_X5_not 2 (some .long)
def w_X5_not : List Cond := cw_X5_not :: mm_GW
set_option maxRecDepth 100000 in
theorem kc_X5_not : cw_X5_not ∈ mm_GW := mm_in (List.mem_of_getElem? (i := 319) rfl) rfl
abbrev c_X5_both : ByteArray := prog_7_method_6_code
abbrev y_X5_both : MethodName := ⟨"RulePayroll$Values", "both", "(JJ)J"⟩
abbrev cw_X5_both : Cond := .code y_X5_both c_X5_both 4 (some .long)
def w_X5_both : List Cond := cw_X5_both :: mm_GW
set_option maxRecDepth 100000 in
theorem kc_X5_both : cw_X5_both ∈ mm_GW := mm_in (List.mem_of_getElem? (i := 322) rfl) rfl
abbrev c_X5_any : ByteArray := prog_7_method_7_code
abbrev y_X5_any : MethodName := ⟨"RulePayroll$Values", "any", "(JJ)J"⟩
abbrev cw_X5_any : Cond := .code y_X5_any c_X5_any 4 (some .long)
def w_X5_any : List Cond := cw_X5_any :: mm_GW
set_option maxRecDepth 100000 in
theorem kc_X5_any : cw_X5_any ∈ mm_GW := mm_in (List.mem_of_getElem? (i := 328) rfl) rfl
abbrev c_X5_choice : ByteArray := prog_7_method_8_code
abbrev y_X5_choice : MethodName := ⟨"RulePayroll$Values", "choice", "(JJJ)J"⟩
abbrev cw_X5_choice : Cond := .code y_X5_choice c_X5_choice 6 (some .long)
def w_X5_choice : List Cond := cw_X5_choice :: mm_GW
set_option maxRecDepth 100000 in
theorem kc_X5_choice : cw_X5_choice ∈ mm_GW := mm_in (List.mem_of_getElem? (i := 331) rfl) rfl
abbrev c_X5_also : ByteArray := prog_7_method_9_code
abbrev y_X5_also : MethodName := ⟨"RulePayroll$Values", "also", "(JJ)J"⟩
abbrev cw_X5_also : Cond := .code y_X5_also c_X5_also 4 (some .long)
def w_X5_also : List Cond := cw_X5_also :: mm_GW
set_option maxRecDepth 100000 in
theorem kc_X5_also : cw_X5_also ∈ mm_GW := mm_in (List.mem_of_getElem? (i := 337) rfl) rfl
abbrev c_X5_byDefault : ByteArray := prog_7_method_10_code
abbrev y_X5_byDefault : MethodName := ⟨"RulePayroll$Values", "byDefault", "(JJJ)J"⟩
abbrev cw_X5_byDefault : Cond := .code y_X5_byDefault c_X5_byDefault 6 (some .long)
def w_X5_byDefault : List Cond := cw_X5_byDefault :: mm_GW
set_option maxRecDepth 100000 in
theorem kc_X5_byDefault : cw_X5_byDefault ∈ mm_GW := mm_in (List.mem_of_getElem? (i := 334) rfl) rfl
abbrev c_X5_ofTwo : ByteArray := prog_7_method_11_code
abbrev y_X5_ofTwo : MethodName := ⟨"RulePayroll$Values", "ofTwo", "(IJJ)J"⟩
abbrev cw_X5_ofTwo : Cond := .code y_X5_ofTwo c_X5_ofTwo 7 (some .long)
def w_X5_ofTwo : List Cond := cw_X5_ofTwo :: mm_GW
set_option maxRecDepth 100000 in
theorem kc_X5_ofTwo : cw_X5_ofTwo ∈ mm_GW := mm_in (List.mem_of_getElem? (i := 349) rfl) rfl
abbrev c_X5_ofInts : ByteArray := prog_7_method_12_code
abbrev y_X5_ofInts : MethodName := ⟨"RulePayroll$Values", "ofInts", "(IJJ)J"⟩
abbrev cw_X5_ofInts : Cond := .code y_X5_ofInts c_X5_ofInts 5 (some .long)
def w_X5_ofInts : List Cond := cw_X5_ofInts :: mm_GW
set_option maxRecDepth 100000 in
theorem kc_X5_ofInts : cw_X5_ofInts ∈ mm_GW := mm_in (List.mem_of_getElem? (i := 352) rfl) rfl
abbrev c_X5_share : ByteArray := prog_7_method_13_code
abbrev y_X5_share : MethodName := ⟨"RulePayroll$Values", "share", "(JJJ)J"⟩
abbrev cw_X5_share : Cond := .code y_X5_share c_X5_share 8 (some .long)
def w_X5_share : List Cond := cw_X5_share :: mm_GW
set_option maxRecDepth 100000 in
theorem kc_X5_share : cw_X5_share ∈ mm_GW := mm_in (List.mem_of_getElem? (i := 304) rfl) rfl
abbrev c_X5_rounded : ByteArray := prog_7_method_14_code
abbrev y_X5_rounded : MethodName := ⟨"RulePayroll$Values", "rounded", "(JJ)J"⟩
abbrev cw_X5_rounded : Cond := .code y_X5_rounded c_X5_rounded 10 (some .long)
def w_X5_rounded : List Cond := cw_X5_rounded :: mm_GW
set_option maxRecDepth 100000 in
theorem kc_X5_rounded : cw_X5_rounded ∈ mm_GW := mm_in (List.mem_of_getElem? (i := 314) rfl) rfl
abbrev c_J7_fill : ByteArray := prog_11_method_103_code
abbrev y_J7_fill : MethodName := ⟨"java/util/Arrays", "fill", "([II)V"⟩
abbrev cw_J7_fill : Cond := .code y_J7_fill c_J7_fill 4 none
def w_J7_fill : List Cond := cw_J7_fill :: mm_GW
set_option maxRecDepth 100000 in
theorem kc_J7_fill : cw_J7_fill ∈ mm_GW := mm_in (List.mem_of_getElem? (i := 100) rfl) rfl
set_option maxRecDepth 100000 in
theorem kc_max : (Cond.code Lib.Math.max.name Lib.Math.max.code 2 (some .int)) ∈ mm_GW := mm_in (List.mem_of_getElem? (i := 224) rfl) rfl
end
section
theorem k_0 : (.fieldLink "RulePayroll$Nodes" 33 "RulePayroll$Nodes" "made" "I" : Cond) ∈ mm_GW := mm_in (List.mem_of_getElem? (i := 75) (by decide +kernel)) rfl
theorem k_1 : (.initialized "RulePayroll" : Cond) ∈ mm_GW := mm_in (List.mem_of_getElem? (i := 32) (by decide +kernel)) rfl
theorem k_2 : (.static ⟨"RulePayroll", "within", "(II)Z"⟩ : Cond) ∈ mm_GW := mm_in (List.mem_of_getElem? (i := 199) (by decide +kernel)) rfl
theorem k_3 : (.methodLink "RulePayroll$Nodes" 71 ⟨"RulePayroll$Nodes", "has", "(I)Z"⟩ : Cond) ∈ mm_GW := mm_in (List.mem_of_getElem? (i := 209) (by decide +kernel)) rfl
theorem k_4 : (.instanceMethod ⟨"RulePayroll$Nodes", "has", "(I)Z"⟩ : Cond) ∈ mm_GW := mm_in (List.mem_of_getElem? (i := 210) (by decide +kernel)) rfl
theorem k_5 : (.selects "RulePayroll$Nodes" ⟨"RulePayroll$Nodes", "has", "(I)Z"⟩ ⟨"RulePayroll$Nodes", "has", "(I)Z"⟩ : Cond) ∈ mm_GW := mm_in (List.mem_of_getElem? (i := 211) (by decide +kernel)) rfl
theorem k_6 : (.initialized "RulePayroll$Nodes" : Cond) ∈ mm_GW := mm_in (List.mem_of_getElem? (i := 34) (by decide +kernel)) rfl
theorem k_7 : (.methodLink "RulePayroll$Nodes" 45 ⟨"RulePayroll$Nodes", "takesNode", "(II)Z"⟩ : Cond) ∈ mm_GW := mm_in (List.mem_of_getElem? (i := 213) (by decide +kernel)) rfl
theorem k_8 : (.static ⟨"RulePayroll$Nodes", "takesNode", "(II)Z"⟩ : Cond) ∈ mm_GW := mm_in (List.mem_of_getElem? (i := 214) (by decide +kernel)) rfl
theorem k_9 : (.methodLink "RulePayroll$Nodes" 68 ⟨"RulePayroll$Nodes", "firstFits", "(II)Z"⟩ : Cond) ∈ mm_GW := mm_in (List.mem_of_getElem? (i := 205) (by decide +kernel)) rfl
theorem k_10 : (.instanceMethod ⟨"RulePayroll$Nodes", "firstFits", "(II)Z"⟩ : Cond) ∈ mm_GW := mm_in (List.mem_of_getElem? (i := 207) (by decide +kernel)) rfl
theorem k_11 : (.selects "RulePayroll$Nodes" ⟨"RulePayroll$Nodes", "firstFits", "(II)Z"⟩ ⟨"RulePayroll$Nodes", "firstFits", "(II)Z"⟩ : Cond) ∈ mm_GW := mm_in (List.mem_of_getElem? (i := 1) (by decide +kernel)) rfl
theorem k_12 : (.fieldLink "RulePayroll$Nodes" 24 "RulePayroll$Nodes" "levels" "[I" : Cond) ∈ mm_GW := mm_in (List.mem_of_getElem? (i := 70) (by decide +kernel)) rfl
theorem k_13 : (.fieldLink "RulePayroll$Nodes" 27 "RulePayroll$Nodes" "ranks" "[I" : Cond) ∈ mm_GW := mm_in (List.mem_of_getElem? (i := 71) (by decide +kernel)) rfl
theorem k_14 : (.fieldLink "RulePayroll$Nodes" 30 "RulePayroll$Nodes" "order" "[I" : Cond) ∈ mm_GW := mm_in (List.mem_of_getElem? (i := 73) (by decide +kernel)) rfl
theorem k_15 : (.methodLink "RulePayroll$Nodes" 41 ⟨"RulePayroll$Nodes", "operandsFit", "(IIII)Z"⟩ : Cond) ∈ mm_GW := mm_in (List.mem_of_getElem? (i := 201) (by decide +kernel)) rfl
theorem k_16 : (.instanceMethod ⟨"RulePayroll$Nodes", "operandsFit", "(IIII)Z"⟩ : Cond) ∈ mm_GW := mm_in (List.mem_of_getElem? (i := 203) (by decide +kernel)) rfl
theorem k_17 : (.selects "RulePayroll$Nodes" ⟨"RulePayroll$Nodes", "operandsFit", "(IIII)Z"⟩ ⟨"RulePayroll$Nodes", "operandsFit", "(IIII)Z"⟩ : Cond) ∈ mm_GW := mm_in (List.mem_of_getElem? (i := 0) (by decide +kernel)) rfl
theorem k_18 : (.methodLink "RulePayroll$Nodes" 52 ⟨"java/lang/Math", "max", "(II)I"⟩ : Cond) ∈ mm_GW := mm_in (List.mem_of_getElem? (i := 222) (by decide +kernel)) rfl
theorem k_19 : (.static ⟨"java/lang/Math", "max", "(II)I"⟩ : Cond) ∈ mm_GW := mm_in (List.mem_of_getElem? (i := 223) (by decide +kernel)) rfl
theorem k_20 : (.initialized "java/lang/Math" : Cond) ∈ mm_GW := mm_in (List.mem_of_getElem? (i := 40) (by decide +kernel)) rfl
theorem k_21 : (.fieldLink "RulePayroll$Nodes" 9 "RulePayroll$Nodes" "kinds" "[I" : Cond) ∈ mm_GW := mm_in (List.mem_of_getElem? (i := 62) (by decide +kernel)) rfl
theorem k_22 : (.fieldLink "RulePayroll$Nodes" 15 "RulePayroll$Nodes" "as" "[I" : Cond) ∈ mm_GW := mm_in (List.mem_of_getElem? (i := 64) (by decide +kernel)) rfl
theorem k_23 : (.fieldLink "RulePayroll$Nodes" 18 "RulePayroll$Nodes" "bs" "[I" : Cond) ∈ mm_GW := mm_in (List.mem_of_getElem? (i := 66) (by decide +kernel)) rfl
theorem k_24 : (.fieldLink "RulePayroll$Nodes" 21 "RulePayroll$Nodes" "cs" "[I" : Cond) ∈ mm_GW := mm_in (List.mem_of_getElem? (i := 68) (by decide +kernel)) rfl
theorem k_25 : (.methodLink "RulePayroll$Nodes" 48 ⟨"RulePayroll$Nodes", "levelOf", "(I)I"⟩ : Cond) ∈ mm_GW := mm_in (List.mem_of_getElem? (i := 218) (by decide +kernel)) rfl
theorem k_26 : (.instanceMethod ⟨"RulePayroll$Nodes", "levelOf", "(I)I"⟩ : Cond) ∈ mm_GW := mm_in (List.mem_of_getElem? (i := 220) (by decide +kernel)) rfl
theorem k_27 : (.selects "RulePayroll$Nodes" ⟨"RulePayroll$Nodes", "levelOf", "(I)I"⟩ ⟨"RulePayroll$Nodes", "levelOf", "(I)I"⟩ : Cond) ∈ mm_GW := mm_in (List.mem_of_getElem? (i := 2) (by decide +kernel)) rfl
theorem k_28 : (.methodLink "RulePayroll$Nodes" 61 ⟨"RulePayroll$Nodes", "putInOrder", "(I)V"⟩ : Cond) ∈ mm_GW := mm_in (List.mem_of_getElem? (i := 229) (by decide +kernel)) rfl
theorem k_29 : (.instanceMethod ⟨"RulePayroll$Nodes", "putInOrder", "(I)V"⟩ : Cond) ∈ mm_GW := mm_in (List.mem_of_getElem? (i := 231) (by decide +kernel)) rfl
theorem k_30 : (.selects "RulePayroll$Nodes" ⟨"RulePayroll$Nodes", "putInOrder", "(I)V"⟩ ⟨"RulePayroll$Nodes", "putInOrder", "(I)V"⟩ : Cond) ∈ mm_GW := mm_in (List.mem_of_getElem? (i := 4) (by decide +kernel)) rfl
theorem k_31 : (.methodLink "RulePayroll$Nodes" 58 ⟨"RulePayroll$Nodes", "rankOf", "(I)I"⟩ : Cond) ∈ mm_GW := mm_in (List.mem_of_getElem? (i := 225) (by decide +kernel)) rfl
theorem k_32 : (.instanceMethod ⟨"RulePayroll$Nodes", "rankOf", "(I)I"⟩ : Cond) ∈ mm_GW := mm_in (List.mem_of_getElem? (i := 227) (by decide +kernel)) rfl
theorem k_33 : (.selects "RulePayroll$Nodes" ⟨"RulePayroll$Nodes", "rankOf", "(I)I"⟩ ⟨"RulePayroll$Nodes", "rankOf", "(I)I"⟩ : Cond) ∈ mm_GW := mm_in (List.mem_of_getElem? (i := 3) (by decide +kernel)) rfl
theorem k_34 : (.fieldLink "RulePayroll" 12 "RulePayroll" "rules" "LRulePayroll$Rules;" : Cond) ∈ mm_GW := mm_in (List.mem_of_getElem? (i := 180) (by decide +kernel)) rfl
theorem k_35 : (.fieldLink "RulePayroll" 30 "RulePayroll$Rules" "nodes" "LRulePayroll$Nodes;" : Cond) ∈ mm_GW := mm_in (List.mem_of_getElem? (i := 119) (by decide +kernel)) rfl
theorem k_36 : (.methodLink "RulePayroll" 34 ⟨"RulePayroll$Nodes", "make", "(IIII)I"⟩ : Cond) ∈ mm_GW := mm_in (List.mem_of_getElem? (i := 194) (by decide +kernel)) rfl
theorem k_37 : (.instanceMethod ⟨"RulePayroll$Nodes", "make", "(IIII)I"⟩ : Cond) ∈ mm_GW := mm_in (List.mem_of_getElem? (i := 195) (by decide +kernel)) rfl
theorem k_38 : (.selects "RulePayroll$Nodes" ⟨"RulePayroll$Nodes", "make", "(IIII)I"⟩ ⟨"RulePayroll$Nodes", "make", "(IIII)I"⟩ : Cond) ∈ mm_GW := mm_in (List.mem_of_getElem? (i := 196) (by decide +kernel)) rfl
theorem k_39 : (.fieldLink "RulePayroll" 48 "RulePayroll$Nodes" "ranks" "[I" : Cond) ∈ mm_GW := mm_in (List.mem_of_getElem? (i := 72) (by decide +kernel)) rfl
theorem k_40 : (.fieldLink "RulePayroll" 52 "RulePayroll$Rules" "definitions" "[I" : Cond) ∈ mm_GW := mm_in (List.mem_of_getElem? (i := 121) (by decide +kernel)) rfl
theorem k_41 : (.methodLink "RulePayroll" 44 ⟨"RulePayroll$Nodes", "has", "(I)Z"⟩ : Cond) ∈ mm_GW := mm_in (List.mem_of_getElem? (i := 238) (by decide +kernel)) rfl
theorem k_42 : (.methodLink "RulePayroll" 40 ⟨"RulePayroll", "within", "(II)Z"⟩ : Cond) ∈ mm_GW := mm_in (List.mem_of_getElem? (i := 237) (by decide +kernel)) rfl
theorem k_43 : (.fieldLink "RulePayroll$Table" 18 "RulePayroll$Table" "steps" "I" : Cond) ∈ mm_GW := mm_in (List.mem_of_getElem? (i := 108) (by decide +kernel)) rfl
theorem k_44 : (.fieldLink "RulePayroll$Table" 9 "RulePayroll$Table" "limits" "[I" : Cond) ∈ mm_GW := mm_in (List.mem_of_getElem? (i := 106) (by decide +kernel)) rfl
theorem k_45 : (.fieldLink "RulePayroll$Table" 15 "RulePayroll$Table" "rates" "[I" : Cond) ∈ mm_GW := mm_in (List.mem_of_getElem? (i := 107) (by decide +kernel)) rfl
theorem k_46 : (.fieldLink "RulePayroll" 55 "RulePayroll$Rules" "tables" "[LRulePayroll$Table;" : Cond) ∈ mm_GW := mm_in (List.mem_of_getElem? (i := 123) (by decide +kernel)) rfl
theorem k_47 : (.methodLink "RulePayroll" 59 ⟨"RulePayroll$Table", "addStep", "(II)I"⟩ : Cond) ∈ mm_GW := mm_in (List.mem_of_getElem? (i := 247) (by decide +kernel)) rfl
theorem k_48 : (.instanceMethod ⟨"RulePayroll$Table", "addStep", "(II)I"⟩ : Cond) ∈ mm_GW := mm_in (List.mem_of_getElem? (i := 248) (by decide +kernel)) rfl
theorem k_49 : (.selects "RulePayroll$Table" ⟨"RulePayroll$Table", "addStep", "(II)I"⟩ ⟨"RulePayroll$Table", "addStep", "(II)I"⟩ : Cond) ∈ mm_GW := mm_in (List.mem_of_getElem? (i := 249) (by decide +kernel)) rfl
theorem k_50 : (.initialized "RulePayroll$Table" : Cond) ∈ mm_GW := mm_in (List.mem_of_getElem? (i := 36) (by decide +kernel)) rfl
theorem k_51 : (.methodLink "RulePayroll" 65 ⟨"RulePayroll$Table", "loseSteps", "()I"⟩ : Cond) ∈ mm_GW := mm_in (List.mem_of_getElem? (i := 255) (by decide +kernel)) rfl
theorem k_52 : (.instanceMethod ⟨"RulePayroll$Table", "loseSteps", "()I"⟩ : Cond) ∈ mm_GW := mm_in (List.mem_of_getElem? (i := 256) (by decide +kernel)) rfl
theorem k_53 : (.selects "RulePayroll$Table" ⟨"RulePayroll$Table", "loseSteps", "()I"⟩ ⟨"RulePayroll$Table", "loseSteps", "()I"⟩ : Cond) ∈ mm_GW := mm_in (List.mem_of_getElem? (i := 257) (by decide +kernel)) rfl
theorem k_54 : (.fieldLink "RulePayroll" 18 "RulePayroll" "persons" "[LRulePayroll$Person;" : Cond) ∈ mm_GW := mm_in (List.mem_of_getElem? (i := 181) (by decide +kernel)) rfl
theorem k_55 : (.fieldLink "RulePayroll" 69 "RulePayroll$Person" "inputs" "[I" : Cond) ∈ mm_GW := mm_in (List.mem_of_getElem? (i := 144) (by decide +kernel)) rfl
theorem k_56 : (.fieldLink "RulePayroll" 72 "RulePayroll$Person" "active" "Z" : Cond) ∈ mm_GW := mm_in (List.mem_of_getElem? (i := 147) (by decide +kernel)) rfl
theorem k_57 : (.constantLong "RulePayroll$Values" 11 (-2147483648) : Cond) ∈ mm_GW := mm_in (List.mem_of_getElem? (i := 278) (by decide +kernel)) rfl
theorem k_58 : (.constantLong "RulePayroll$Values" 13 2147483647 : Cond) ∈ mm_GW := mm_in (List.mem_of_getElem? (i := 279) (by decide +kernel)) rfl
theorem k_59 : (.fieldLink "RulePayroll$Person" 15 "RulePayroll$Person" "grossPaid" "J" : Cond) ∈ mm_GW := mm_in (List.mem_of_getElem? (i := 145) (by decide +kernel)) rfl
theorem k_60 : (.fieldLink "RulePayroll$Person" 19 "RulePayroll$Person" "taxPaid" "J" : Cond) ∈ mm_GW := mm_in (List.mem_of_getElem? (i := 146) (by decide +kernel)) rfl
theorem k_61 : (.methodLink "RulePayroll$Person" 22 ⟨"RulePayroll$Values", "isInt", "(J)Z"⟩ : Cond) ∈ mm_GW := mm_in (List.mem_of_getElem? (i := 275) (by decide +kernel)) rfl
theorem k_62 : (.static ⟨"RulePayroll$Values", "isInt", "(J)Z"⟩ : Cond) ∈ mm_GW := mm_in (List.mem_of_getElem? (i := 276) (by decide +kernel)) rfl
theorem k_63 : (.initialized "RulePayroll$Values" : Cond) ∈ mm_GW := mm_in (List.mem_of_getElem? (i := 41) (by decide +kernel)) rfl
theorem k_64 : (.fieldLink "RulePayroll$Rules" 28 "RulePayroll$Rules" "worked" "[J" : Cond) ∈ mm_GW := mm_in (List.mem_of_getElem? (i := 124) (by decide +kernel)) rfl
theorem k_65 : (.constantLong "RulePayroll$Rules" 54 1000000000001 : Cond) ∈ mm_GW := mm_in (List.mem_of_getElem? (i := 297) (by decide +kernel)) rfl
theorem k_66 : (.fieldLink "RulePayroll$Rules" 18 "RulePayroll$Rules" "definitions" "[I" : Cond) ∈ mm_GW := mm_in (List.mem_of_getElem? (i := 120) (by decide +kernel)) rfl
theorem k_67 : (.methodLink "RulePayroll$Rules" 50 ⟨"RulePayroll$Rules", "workedOrEmpty", "(I)J"⟩ : Cond) ∈ mm_GW := mm_in (List.mem_of_getElem? (i := 293) (by decide +kernel)) rfl
theorem k_68 : (.instanceMethod ⟨"RulePayroll$Rules", "workedOrEmpty", "(I)J"⟩ : Cond) ∈ mm_GW := mm_in (List.mem_of_getElem? (i := 295) (by decide +kernel)) rfl
theorem k_69 : (.selects "RulePayroll$Rules" ⟨"RulePayroll$Rules", "workedOrEmpty", "(I)J"⟩ ⟨"RulePayroll$Rules", "workedOrEmpty", "(I)J"⟩ : Cond) ∈ mm_GW := mm_in (List.mem_of_getElem? (i := 6) (by decide +kernel)) rfl
theorem k_70 : (.initialized "RulePayroll$Rules" : Cond) ∈ mm_GW := mm_in (List.mem_of_getElem? (i := 33) (by decide +kernel)) rfl
theorem k_71 : (.constantLong "RulePayroll$Values" 15 1000000000001 : Cond) ∈ mm_GW := mm_in (List.mem_of_getElem? (i := 309) (by decide +kernel)) rfl
theorem k_72 : (.constantLong "RulePayroll$Values" 17 1000000000102 : Cond) ∈ mm_GW := mm_in (List.mem_of_getElem? (i := 310) (by decide +kernel)) rfl
theorem k_73 : (.constantLong "RulePayroll$Values" 46 2 : Cond) ∈ mm_GW := mm_in (List.mem_of_getElem? (i := 315) (by decide +kernel)) rfl
theorem k_74 : (.constantLong "RulePayroll$Values" 38 1000000000104 : Cond) ∈ mm_GW := mm_in (List.mem_of_getElem? (i := 316) (by decide +kernel)) rfl
theorem k_75 : (.methodLink "RulePayroll$Values" 19 ⟨"RulePayroll$Values", "isInt", "(J)Z"⟩ : Cond) ∈ mm_GW := mm_in (List.mem_of_getElem? (i := 305) (by decide +kernel)) rfl
theorem k_76 : (.methodLink "RulePayroll$Values" 42 ⟨"RulePayroll$Values", "rounded", "(JJ)J"⟩ : Cond) ∈ mm_GW := mm_in (List.mem_of_getElem? (i := 312) (by decide +kernel)) rfl
theorem k_77 : (.static ⟨"RulePayroll$Values", "rounded", "(JJ)J"⟩ : Cond) ∈ mm_GW := mm_in (List.mem_of_getElem? (i := 313) (by decide +kernel)) rfl
theorem k_78 : (.constantLong "RulePayroll$Values" 40 1000000000103 : Cond) ∈ mm_GW := mm_in (List.mem_of_getElem? (i := 311) (by decide +kernel)) rfl
theorem k_79 : (.methodLink "RulePayroll$Values" 25 ⟨"RulePayroll$Values", "faultOf", "(J)J"⟩ : Cond) ∈ mm_GW := mm_in (List.mem_of_getElem? (i := 306) (by decide +kernel)) rfl
theorem k_80 : (.static ⟨"RulePayroll$Values", "faultOf", "(J)J"⟩ : Cond) ∈ mm_GW := mm_in (List.mem_of_getElem? (i := 307) (by decide +kernel)) rfl
theorem k_81 : (.methodLink "RulePayroll$Values" 29 ⟨"RulePayroll$Values", "truthOf", "(J)J"⟩ : Cond) ∈ mm_GW := mm_in (List.mem_of_getElem? (i := 323) (by decide +kernel)) rfl
theorem k_82 : (.static ⟨"RulePayroll$Values", "truthOf", "(J)J"⟩ : Cond) ∈ mm_GW := mm_in (List.mem_of_getElem? (i := 324) (by decide +kernel)) rfl
theorem k_83 : (.constantLong "RulePayroll$Values" 32 1000000000101 : Cond) ∈ mm_GW := mm_in (List.mem_of_getElem? (i := 338) (by decide +kernel)) rfl
theorem k_84 : (.methodLink "RulePayroll$Table" 28 ⟨"RulePayroll$Values", "faultOf", "(J)J"⟩ : Cond) ∈ mm_GW := mm_in (List.mem_of_getElem? (i := 344) (by decide +kernel)) rfl
theorem k_85 : (.methodLink "RulePayroll$Table" 22 ⟨"RulePayroll$Values", "isInt", "(J)Z"⟩ : Cond) ∈ mm_GW := mm_in (List.mem_of_getElem? (i := 343) (by decide +kernel)) rfl
theorem k_86 : (.constantLong "RulePayroll$Table" 32 1000 : Cond) ∈ mm_GW := mm_in (List.mem_of_getElem? (i := 345) (by decide +kernel)) rfl
theorem k_87 : (.methodLink "RulePayroll$Table" 34 ⟨"RulePayroll$Values", "rounded", "(JJ)J"⟩ : Cond) ∈ mm_GW := mm_in (List.mem_of_getElem? (i := 346) (by decide +kernel)) rfl
theorem k_88 : (.methodLink "RulePayroll$Values" 34 ⟨"RulePayroll$Values", "ofInts", "(IJJ)J"⟩ : Cond) ∈ mm_GW := mm_in (List.mem_of_getElem? (i := 350) (by decide +kernel)) rfl
theorem k_89 : (.static ⟨"RulePayroll$Values", "ofInts", "(IJJ)J"⟩ : Cond) ∈ mm_GW := mm_in (List.mem_of_getElem? (i := 351) (by decide +kernel)) rfl
theorem k_90 : (.fieldLink "RulePayroll$Rules" 12 "RulePayroll$Rules" "nodes" "LRulePayroll$Nodes;" : Cond) ∈ mm_GW := mm_in (List.mem_of_getElem? (i := 118) (by decide +kernel)) rfl
theorem k_91 : (.fieldLink "RulePayroll$Rules" 56 "RulePayroll$Nodes" "kinds" "[I" : Cond) ∈ mm_GW := mm_in (List.mem_of_getElem? (i := 63) (by decide +kernel)) rfl
theorem k_92 : (.fieldLink "RulePayroll$Rules" 59 "RulePayroll$Nodes" "as" "[I" : Cond) ∈ mm_GW := mm_in (List.mem_of_getElem? (i := 65) (by decide +kernel)) rfl
theorem k_93 : (.fieldLink "RulePayroll$Rules" 62 "RulePayroll$Nodes" "bs" "[I" : Cond) ∈ mm_GW := mm_in (List.mem_of_getElem? (i := 67) (by decide +kernel)) rfl
theorem k_94 : (.fieldLink "RulePayroll$Rules" 65 "RulePayroll$Nodes" "cs" "[I" : Cond) ∈ mm_GW := mm_in (List.mem_of_getElem? (i := 69) (by decide +kernel)) rfl
theorem k_95 : (.fieldLink "RulePayroll$Rules" 68 "RulePayroll$Person" "inputs" "[I" : Cond) ∈ mm_GW := mm_in (List.mem_of_getElem? (i := 143) (by decide +kernel)) rfl
theorem k_96 : (.methodLink "RulePayroll$Rules" 73 ⟨"RulePayroll$Rules", "workedDefinition", "(I)J"⟩ : Cond) ∈ mm_GW := mm_in (List.mem_of_getElem? (i := 289) (by decide +kernel)) rfl
theorem k_97 : (.instanceMethod ⟨"RulePayroll$Rules", "workedDefinition", "(I)J"⟩ : Cond) ∈ mm_GW := mm_in (List.mem_of_getElem? (i := 290) (by decide +kernel)) rfl
theorem k_98 : (.selects "RulePayroll$Rules" ⟨"RulePayroll$Rules", "workedDefinition", "(I)J"⟩ ⟨"RulePayroll$Rules", "workedDefinition", "(I)J"⟩ : Cond) ∈ mm_GW := mm_in (List.mem_of_getElem? (i := 291) (by decide +kernel)) rfl
theorem k_99 : (.methodLink "RulePayroll$Rules" 76 ⟨"RulePayroll$Person", "paidSoFar", "(I)J"⟩ : Cond) ∈ mm_GW := mm_in (List.mem_of_getElem? (i := 298) (by decide +kernel)) rfl
theorem k_100 : (.instanceMethod ⟨"RulePayroll$Person", "paidSoFar", "(I)J"⟩ : Cond) ∈ mm_GW := mm_in (List.mem_of_getElem? (i := 299) (by decide +kernel)) rfl
theorem k_101 : (.selects "RulePayroll$Person" ⟨"RulePayroll$Person", "paidSoFar", "(I)J"⟩ ⟨"RulePayroll$Person", "paidSoFar", "(I)J"⟩ : Cond) ∈ mm_GW := mm_in (List.mem_of_getElem? (i := 300) (by decide +kernel)) rfl
theorem k_102 : (.initialized "RulePayroll$Person" : Cond) ∈ mm_GW := mm_in (List.mem_of_getElem? (i := 37) (by decide +kernel)) rfl
theorem k_103 : (.methodLink "RulePayroll$Rules" 79 ⟨"RulePayroll$Values", "share", "(JJJ)J"⟩ : Cond) ∈ mm_GW := mm_in (List.mem_of_getElem? (i := 302) (by decide +kernel)) rfl
theorem k_104 : (.static ⟨"RulePayroll$Values", "share", "(JJJ)J"⟩ : Cond) ∈ mm_GW := mm_in (List.mem_of_getElem? (i := 303) (by decide +kernel)) rfl
theorem k_105 : (.methodLink "RulePayroll$Rules" 85 ⟨"RulePayroll$Values", "not", "(J)J"⟩ : Cond) ∈ mm_GW := mm_in (List.mem_of_getElem? (i := 317) (by decide +kernel)) rfl
theorem k_106 : (.static ⟨"RulePayroll$Values", "not", "(J)J"⟩ : Cond) ∈ mm_GW := mm_in (List.mem_of_getElem? (i := 318) (by decide +kernel)) rfl
theorem k_107 : (.methodLink "RulePayroll$Rules" 89 ⟨"RulePayroll$Values", "both", "(JJ)J"⟩ : Cond) ∈ mm_GW := mm_in (List.mem_of_getElem? (i := 320) (by decide +kernel)) rfl
theorem k_108 : (.static ⟨"RulePayroll$Values", "both", "(JJ)J"⟩ : Cond) ∈ mm_GW := mm_in (List.mem_of_getElem? (i := 321) (by decide +kernel)) rfl
theorem k_109 : (.methodLink "RulePayroll$Rules" 93 ⟨"RulePayroll$Values", "any", "(JJ)J"⟩ : Cond) ∈ mm_GW := mm_in (List.mem_of_getElem? (i := 326) (by decide +kernel)) rfl
theorem k_110 : (.static ⟨"RulePayroll$Values", "any", "(JJ)J"⟩ : Cond) ∈ mm_GW := mm_in (List.mem_of_getElem? (i := 327) (by decide +kernel)) rfl
theorem k_111 : (.methodLink "RulePayroll$Rules" 96 ⟨"RulePayroll$Values", "choice", "(JJJ)J"⟩ : Cond) ∈ mm_GW := mm_in (List.mem_of_getElem? (i := 329) (by decide +kernel)) rfl
theorem k_112 : (.static ⟨"RulePayroll$Values", "choice", "(JJJ)J"⟩ : Cond) ∈ mm_GW := mm_in (List.mem_of_getElem? (i := 330) (by decide +kernel)) rfl
theorem k_113 : (.methodLink "RulePayroll$Rules" 99 ⟨"RulePayroll$Values", "byDefault", "(JJJ)J"⟩ : Cond) ∈ mm_GW := mm_in (List.mem_of_getElem? (i := 332) (by decide +kernel)) rfl
theorem k_114 : (.static ⟨"RulePayroll$Values", "byDefault", "(JJJ)J"⟩ : Cond) ∈ mm_GW := mm_in (List.mem_of_getElem? (i := 333) (by decide +kernel)) rfl
theorem k_115 : (.methodLink "RulePayroll$Rules" 102 ⟨"RulePayroll$Values", "also", "(JJ)J"⟩ : Cond) ∈ mm_GW := mm_in (List.mem_of_getElem? (i := 335) (by decide +kernel)) rfl
theorem k_116 : (.static ⟨"RulePayroll$Values", "also", "(JJ)J"⟩ : Cond) ∈ mm_GW := mm_in (List.mem_of_getElem? (i := 336) (by decide +kernel)) rfl
theorem k_117 : (.fieldLink "RulePayroll$Rules" 24 "RulePayroll$Rules" "tables" "[LRulePayroll$Table;" : Cond) ∈ mm_GW := mm_in (List.mem_of_getElem? (i := 122) (by decide +kernel)) rfl
theorem k_118 : (.methodLink "RulePayroll$Rules" 105 ⟨"RulePayroll$Table", "scaled", "(J)J"⟩ : Cond) ∈ mm_GW := mm_in (List.mem_of_getElem? (i := 339) (by decide +kernel)) rfl
theorem k_119 : (.instanceMethod ⟨"RulePayroll$Table", "scaled", "(J)J"⟩ : Cond) ∈ mm_GW := mm_in (List.mem_of_getElem? (i := 340) (by decide +kernel)) rfl
theorem k_120 : (.selects "RulePayroll$Table" ⟨"RulePayroll$Table", "scaled", "(J)J"⟩ ⟨"RulePayroll$Table", "scaled", "(J)J"⟩ : Cond) ∈ mm_GW := mm_in (List.mem_of_getElem? (i := 341) (by decide +kernel)) rfl
theorem k_121 : (.methodLink "RulePayroll$Rules" 108 ⟨"RulePayroll$Values", "ofTwo", "(IJJ)J"⟩ : Cond) ∈ mm_GW := mm_in (List.mem_of_getElem? (i := 347) (by decide +kernel)) rfl
theorem k_122 : (.static ⟨"RulePayroll$Values", "ofTwo", "(IJJ)J"⟩ : Cond) ∈ mm_GW := mm_in (List.mem_of_getElem? (i := 348) (by decide +kernel)) rfl
theorem k_123 : (.fieldLink "RulePayroll$Rules" 39 "RulePayroll$Nodes" "made" "I" : Cond) ∈ mm_GW := mm_in (List.mem_of_getElem? (i := 76) (by decide +kernel)) rfl
theorem k_124 : (.fieldLink "RulePayroll$Rules" 43 "RulePayroll$Nodes" "order" "[I" : Cond) ∈ mm_GW := mm_in (List.mem_of_getElem? (i := 74) (by decide +kernel)) rfl
theorem k_125 : (.methodLink "RulePayroll$Rules" 46 ⟨"RulePayroll$Rules", "workedOut", "(ILRulePayroll$Person;)J"⟩ : Cond) ∈ mm_GW := mm_in (List.mem_of_getElem? (i := 285) (by decide +kernel)) rfl
theorem k_126 : (.instanceMethod ⟨"RulePayroll$Rules", "workedOut", "(ILRulePayroll$Person;)J"⟩ : Cond) ∈ mm_GW := mm_in (List.mem_of_getElem? (i := 287) (by decide +kernel)) rfl
theorem k_127 : (.selects "RulePayroll$Rules" ⟨"RulePayroll$Rules", "workedOut", "(ILRulePayroll$Person;)J"⟩ ⟨"RulePayroll$Rules", "workedOut", "(ILRulePayroll$Person;)J"⟩ : Cond) ∈ mm_GW := mm_in (List.mem_of_getElem? (i := 5) (by decide +kernel)) rfl
theorem k_128 : (.constantLong "RulePayroll" 80 1000000000000 : Cond) ∈ mm_GW := mm_in (List.mem_of_getElem? (i := 280) (by decide +kernel)) rfl
theorem k_129 : (.fieldLink "RulePayroll" 86 "RulePayroll$Rules" "worked" "[J" : Cond) ∈ mm_GW := mm_in (List.mem_of_getElem? (i := 125) (by decide +kernel)) rfl
theorem k_130 : (.methodLink "RulePayroll" 82 ⟨"RulePayroll$Rules", "workOutFor", "(LRulePayroll$Person;)V"⟩ : Cond) ∈ mm_GW := mm_in (List.mem_of_getElem? (i := 281) (by decide +kernel)) rfl
theorem k_131 : (.instanceMethod ⟨"RulePayroll$Rules", "workOutFor", "(LRulePayroll$Person;)V"⟩ : Cond) ∈ mm_GW := mm_in (List.mem_of_getElem? (i := 282) (by decide +kernel)) rfl
theorem k_132 : (.selects "RulePayroll$Rules" ⟨"RulePayroll$Rules", "workOutFor", "(LRulePayroll$Person;)V"⟩ ⟨"RulePayroll$Rules", "workOutFor", "(LRulePayroll$Person;)V"⟩ : Cond) ∈ mm_GW := mm_in (List.mem_of_getElem? (i := 283) (by decide +kernel)) rfl
theorem k_133 : (.methodLink "RulePayroll" 76 ⟨"RulePayroll$Person", "paidIsInt", "()Z"⟩ : Cond) ∈ mm_GW := mm_in (List.mem_of_getElem? (i := 271) (by decide +kernel)) rfl
theorem k_134 : (.instanceMethod ⟨"RulePayroll$Person", "paidIsInt", "()Z"⟩ : Cond) ∈ mm_GW := mm_in (List.mem_of_getElem? (i := 272) (by decide +kernel)) rfl
theorem k_135 : (.selects "RulePayroll$Person" ⟨"RulePayroll$Person", "paidIsInt", "()Z"⟩ ⟨"RulePayroll$Person", "paidIsInt", "()Z"⟩ : Cond) ∈ mm_GW := mm_in (List.mem_of_getElem? (i := 273) (by decide +kernel)) rfl
theorem k_136 : (.fieldLink "RulePayroll$Runs" 9 "RulePayroll$Runs" "amounts" "[J" : Cond) ∈ mm_GW := mm_in (List.mem_of_getElem? (i := 163) (by decide +kernel)) rfl
theorem k_137 : (.methodLink "RulePayroll$Runs" 35 ⟨"RulePayroll$Runs", "placeOf", "(II)I"⟩ : Cond) ∈ mm_GW := mm_in (List.mem_of_getElem? (i := 370) (by decide +kernel)) rfl
theorem k_138 : (.static ⟨"RulePayroll$Runs", "placeOf", "(II)I"⟩ : Cond) ∈ mm_GW := mm_in (List.mem_of_getElem? (i := 371) (by decide +kernel)) rfl
theorem k_139 : (.initialized "RulePayroll$Runs" : Cond) ∈ mm_GW := mm_in (List.mem_of_getElem? (i := 38) (by decide +kernel)) rfl
theorem k_140 : (.fieldLink "RulePayroll$Runs" 15 "RulePayroll$Runs" "reasons" "[I" : Cond) ∈ mm_GW := mm_in (List.mem_of_getElem? (i := 164) (by decide +kernel)) rfl
theorem k_141 : (.constantLong "RulePayroll$Runs" 39 1000000000000 : Cond) ∈ mm_GW := mm_in (List.mem_of_getElem? (i := 365) (by decide +kernel)) rfl
theorem k_142 : (.methodLink "RulePayroll$Runs" 45 ⟨"RulePayroll$Runs", "hold", "(III)V"⟩ : Cond) ∈ mm_GW := mm_in (List.mem_of_getElem? (i := 373) (by decide +kernel)) rfl
theorem k_143 : (.instanceMethod ⟨"RulePayroll$Runs", "hold", "(III)V"⟩ : Cond) ∈ mm_GW := mm_in (List.mem_of_getElem? (i := 374) (by decide +kernel)) rfl
theorem k_144 : (.selects "RulePayroll$Runs" ⟨"RulePayroll$Runs", "hold", "(III)V"⟩ ⟨"RulePayroll$Runs", "hold", "(III)V"⟩ : Cond) ∈ mm_GW := mm_in (List.mem_of_getElem? (i := 375) (by decide +kernel)) rfl
theorem k_145 : (.methodLink "RulePayroll$Runs" 41 ⟨"RulePayroll$Runs", "writeSlip", "(IIJJJ)V"⟩ : Cond) ∈ mm_GW := mm_in (List.mem_of_getElem? (i := 366) (by decide +kernel)) rfl
theorem k_146 : (.instanceMethod ⟨"RulePayroll$Runs", "writeSlip", "(IIJJJ)V"⟩ : Cond) ∈ mm_GW := mm_in (List.mem_of_getElem? (i := 367) (by decide +kernel)) rfl
theorem k_147 : (.selects "RulePayroll$Runs" ⟨"RulePayroll$Runs", "writeSlip", "(IIJJJ)V"⟩ ⟨"RulePayroll$Runs", "writeSlip", "(IIJJJ)V"⟩ : Cond) ∈ mm_GW := mm_in (List.mem_of_getElem? (i := 368) (by decide +kernel)) rfl
theorem k_148 : (.constantLong "RulePayroll$Person" 36 1000000000100 : Cond) ∈ mm_GW := mm_in (List.mem_of_getElem? (i := 391) (by decide +kernel)) rfl
theorem k_149 : (.methodLink "RulePayroll$Person" 32 ⟨"RulePayroll$Values", "faultOf", "(J)J"⟩ : Cond) ∈ mm_GW := mm_in (List.mem_of_getElem? (i := 390) (by decide +kernel)) rfl
theorem k_150 : (.methodLink "RulePayroll$Person" 28 ⟨"RulePayroll$Person", "reasonOf", "(J)I"⟩ : Cond) ∈ mm_GW := mm_in (List.mem_of_getElem? (i := 387) (by decide +kernel)) rfl
theorem k_151 : (.static ⟨"RulePayroll$Person", "reasonOf", "(J)I"⟩ : Cond) ∈ mm_GW := mm_in (List.mem_of_getElem? (i := 388) (by decide +kernel)) rfl
theorem k_152 : (.fieldLink "RulePayroll" 26 "RulePayroll" "runs" "LRulePayroll$Runs;" : Cond) ∈ mm_GW := mm_in (List.mem_of_getElem? (i := 182) (by decide +kernel)) rfl
theorem k_153 : (.methodLink "RulePayroll" 165 ⟨"RulePayroll$Person", "grow", "(JJ)V"⟩ : Cond) ∈ mm_GW := mm_in (List.mem_of_getElem? (i := 393) (by decide +kernel)) rfl
theorem k_154 : (.instanceMethod ⟨"RulePayroll$Person", "grow", "(JJ)V"⟩ : Cond) ∈ mm_GW := mm_in (List.mem_of_getElem? (i := 394) (by decide +kernel)) rfl
theorem k_155 : (.selects "RulePayroll$Person" ⟨"RulePayroll$Person", "grow", "(JJ)V"⟩ ⟨"RulePayroll$Person", "grow", "(JJ)V"⟩ : Cond) ∈ mm_GW := mm_in (List.mem_of_getElem? (i := 395) (by decide +kernel)) rfl
theorem k_156 : (.methodLink "RulePayroll" 161 ⟨"RulePayroll$Runs", "writeSlip", "(IIJJJ)V"⟩ : Cond) ∈ mm_GW := mm_in (List.mem_of_getElem? (i := 392) (by decide +kernel)) rfl
theorem k_157 : (.methodLink "RulePayroll" 150 ⟨"RulePayroll$Runs", "hold", "(III)V"⟩ : Cond) ∈ mm_GW := mm_in (List.mem_of_getElem? (i := 381) (by decide +kernel)) rfl
theorem k_158 : (.methodLink "RulePayroll" 157 ⟨"RulePayroll$Person", "reasonToHold", "(JJJ)I"⟩ : Cond) ∈ mm_GW := mm_in (List.mem_of_getElem? (i := 383) (by decide +kernel)) rfl
theorem k_159 : (.instanceMethod ⟨"RulePayroll$Person", "reasonToHold", "(JJJ)I"⟩ : Cond) ∈ mm_GW := mm_in (List.mem_of_getElem? (i := 384) (by decide +kernel)) rfl
theorem k_160 : (.selects "RulePayroll$Person" ⟨"RulePayroll$Person", "reasonToHold", "(JJJ)I"⟩ ⟨"RulePayroll$Person", "reasonToHold", "(JJJ)I"⟩ : Cond) ∈ mm_GW := mm_in (List.mem_of_getElem? (i := 385) (by decide +kernel)) rfl
theorem k_161 : (.methodLink "RulePayroll" 154 ⟨"RulePayroll$Rules", "workedDefinition", "(I)J"⟩ : Cond) ∈ mm_GW := mm_in (List.mem_of_getElem? (i := 382) (by decide +kernel)) rfl
theorem k_162 : (.methodLink "RulePayroll" 147 ⟨"RulePayroll", "payOne", "(II)V"⟩ : Cond) ∈ mm_GW := mm_in (List.mem_of_getElem? (i := 377) (by decide +kernel)) rfl
theorem k_163 : (.instanceMethod ⟨"RulePayroll", "payOne", "(II)V"⟩ : Cond) ∈ mm_GW := mm_in (List.mem_of_getElem? (i := 379) (by decide +kernel)) rfl
theorem k_164 : (.selects "RulePayroll" ⟨"RulePayroll", "payOne", "(II)V"⟩ ⟨"RulePayroll", "payOne", "(II)V"⟩ : Cond) ∈ mm_GW := mm_in (List.mem_of_getElem? (i := 8) (by decide +kernel)) rfl
theorem k_165 : (.methodLink "RulePayroll" 143 ⟨"RulePayroll$Runs", "wipe", "(II)V"⟩ : Cond) ∈ mm_GW := mm_in (List.mem_of_getElem? (i := 361) (by decide +kernel)) rfl
theorem k_166 : (.instanceMethod ⟨"RulePayroll$Runs", "wipe", "(II)V"⟩ : Cond) ∈ mm_GW := mm_in (List.mem_of_getElem? (i := 362) (by decide +kernel)) rfl
theorem k_167 : (.selects "RulePayroll$Runs" ⟨"RulePayroll$Runs", "wipe", "(II)V"⟩ ⟨"RulePayroll$Runs", "wipe", "(II)V"⟩ : Cond) ∈ mm_GW := mm_in (List.mem_of_getElem? (i := 363) (by decide +kernel)) rfl
theorem k_168 : (.fieldLink "RulePayroll" 90 "RulePayroll$Runs" "made" "I" : Cond) ∈ mm_GW := mm_in (List.mem_of_getElem? (i := 169) (by decide +kernel)) rfl
theorem k_169 : (.methodLink "RulePayroll" 94 ⟨"RulePayroll", "payAll", "(I)V"⟩ : Cond) ∈ mm_GW := mm_in (List.mem_of_getElem? (i := 357) (by decide +kernel)) rfl
theorem k_170 : (.instanceMethod ⟨"RulePayroll", "payAll", "(I)V"⟩ : Cond) ∈ mm_GW := mm_in (List.mem_of_getElem? (i := 359) (by decide +kernel)) rfl
theorem k_171 : (.selects "RulePayroll" ⟨"RulePayroll", "payAll", "(I)V"⟩ ⟨"RulePayroll", "payAll", "(I)V"⟩ : Cond) ∈ mm_GW := mm_in (List.mem_of_getElem? (i := 7) (by decide +kernel)) rfl
theorem k_172 : (.fieldLink "RulePayroll$Runs" 23 "RulePayroll$Runs" "made" "I" : Cond) ∈ mm_GW := mm_in (List.mem_of_getElem? (i := 168) (by decide +kernel)) rfl
theorem k_173 : (.fieldLink "RulePayroll$Runs" 19 "RulePayroll$Runs" "takenBack" "[Z" : Cond) ∈ mm_GW := mm_in (List.mem_of_getElem? (i := 166) (by decide +kernel)) rfl
theorem k_174 : (.methodLink "RulePayroll$Runs" 31 ⟨"RulePayroll$Runs", "has", "(I)Z"⟩ : Cond) ∈ mm_GW := mm_in (List.mem_of_getElem? (i := 405) (by decide +kernel)) rfl
theorem k_175 : (.instanceMethod ⟨"RulePayroll$Runs", "has", "(I)Z"⟩ : Cond) ∈ mm_GW := mm_in (List.mem_of_getElem? (i := 406) (by decide +kernel)) rfl
theorem k_176 : (.selects "RulePayroll$Runs" ⟨"RulePayroll$Runs", "has", "(I)Z"⟩ ⟨"RulePayroll$Runs", "has", "(I)Z"⟩ : Cond) ∈ mm_GW := mm_in (List.mem_of_getElem? (i := 407) (by decide +kernel)) rfl
theorem k_177 : (.methodLink "RulePayroll" 113 ⟨"RulePayroll$Runs", "amountOf", "(III)J"⟩ : Cond) ∈ mm_GW := mm_in (List.mem_of_getElem? (i := 418) (by decide +kernel)) rfl
theorem k_178 : (.instanceMethod ⟨"RulePayroll$Runs", "amountOf", "(III)J"⟩ : Cond) ∈ mm_GW := mm_in (List.mem_of_getElem? (i := 419) (by decide +kernel)) rfl
theorem k_179 : (.selects "RulePayroll$Runs" ⟨"RulePayroll$Runs", "amountOf", "(III)J"⟩ ⟨"RulePayroll$Runs", "amountOf", "(III)J"⟩ : Cond) ∈ mm_GW := mm_in (List.mem_of_getElem? (i := 420) (by decide +kernel)) rfl
theorem k_180 : (.methodLink "RulePayroll" 169 ⟨"RulePayroll$Runs", "hasSlip", "(II)Z"⟩ : Cond) ∈ mm_GW := mm_in (List.mem_of_getElem? (i := 414) (by decide +kernel)) rfl
theorem k_181 : (.instanceMethod ⟨"RulePayroll$Runs", "hasSlip", "(II)Z"⟩ : Cond) ∈ mm_GW := mm_in (List.mem_of_getElem? (i := 415) (by decide +kernel)) rfl
theorem k_182 : (.selects "RulePayroll$Runs" ⟨"RulePayroll$Runs", "hasSlip", "(II)Z"⟩ ⟨"RulePayroll$Runs", "hasSlip", "(II)Z"⟩ : Cond) ∈ mm_GW := mm_in (List.mem_of_getElem? (i := 416) (by decide +kernel)) rfl
theorem k_183 : (.fieldLink "RulePayroll" 104 "RulePayroll$Runs" "takenBack" "[Z" : Cond) ∈ mm_GW := mm_in (List.mem_of_getElem? (i := 167) (by decide +kernel)) rfl
theorem k_184 : (.methodLink "RulePayroll" 101 ⟨"RulePayroll", "unpayAll", "(I)V"⟩ : Cond) ∈ mm_GW := mm_in (List.mem_of_getElem? (i := 410) (by decide +kernel)) rfl
theorem k_185 : (.instanceMethod ⟨"RulePayroll", "unpayAll", "(I)V"⟩ : Cond) ∈ mm_GW := mm_in (List.mem_of_getElem? (i := 412) (by decide +kernel)) rfl
theorem k_186 : (.selects "RulePayroll" ⟨"RulePayroll", "unpayAll", "(I)V"⟩ ⟨"RulePayroll", "unpayAll", "(I)V"⟩ : Cond) ∈ mm_GW := mm_in (List.mem_of_getElem? (i := 9) (by decide +kernel)) rfl
theorem k_187 : (.methodLink "RulePayroll" 98 ⟨"RulePayroll$Runs", "stands", "(I)Z"⟩ : Cond) ∈ mm_GW := mm_in (List.mem_of_getElem? (i := 401) (by decide +kernel)) rfl
theorem k_188 : (.instanceMethod ⟨"RulePayroll$Runs", "stands", "(I)Z"⟩ : Cond) ∈ mm_GW := mm_in (List.mem_of_getElem? (i := 402) (by decide +kernel)) rfl
theorem k_189 : (.selects "RulePayroll$Runs" ⟨"RulePayroll$Runs", "stands", "(I)Z"⟩ ⟨"RulePayroll$Runs", "stands", "(I)Z"⟩ : Cond) ∈ mm_GW := mm_in (List.mem_of_getElem? (i := 403) (by decide +kernel)) rfl
theorem k_190 : (.methodLink "RulePayroll$Runs" 49 ⟨"RulePayroll$Runs", "hasSlip", "(II)Z"⟩ : Cond) ∈ mm_GW := mm_in (List.mem_of_getElem? (i := 430) (by decide +kernel)) rfl
theorem k_191 : (.methodLink "RulePayroll" 108 ⟨"RulePayroll$Runs", "slipsOf", "(I)I"⟩ : Cond) ∈ mm_GW := mm_in (List.mem_of_getElem? (i := 426) (by decide +kernel)) rfl
theorem k_192 : (.instanceMethod ⟨"RulePayroll$Runs", "slipsOf", "(I)I"⟩ : Cond) ∈ mm_GW := mm_in (List.mem_of_getElem? (i := 427) (by decide +kernel)) rfl
theorem k_193 : (.selects "RulePayroll$Runs" ⟨"RulePayroll$Runs", "slipsOf", "(I)I"⟩ ⟨"RulePayroll$Runs", "slipsOf", "(I)I"⟩ : Cond) ∈ mm_GW := mm_in (List.mem_of_getElem? (i := 428) (by decide +kernel)) rfl
theorem k_194 : (.methodLink "RulePayroll" 112 ⟨"RulePayroll$Runs", "has", "(I)Z"⟩ : Cond) ∈ mm_GW := mm_in (List.mem_of_getElem? (i := 435) (by decide +kernel)) rfl
theorem k_195 : (.fieldLink "RulePayroll" 117 "RulePayroll$Runs" "reasons" "[I" : Cond) ∈ mm_GW := mm_in (List.mem_of_getElem? (i := 165) (by decide +kernel)) rfl
theorem k_196 : (.methodLink "RulePayroll$Runs" 60 ⟨"RulePayroll$Runs", "amountOf", "(III)J"⟩ : Cond) ∈ mm_GW := mm_in (List.mem_of_getElem? (i := 452) (by decide +kernel)) rfl
theorem k_197 : (.methodLink "RulePayroll$Runs" 56 ⟨"RulePayroll$Runs", "totalOfRun", "(II)J"⟩ : Cond) ∈ mm_GW := mm_in (List.mem_of_getElem? (i := 448) (by decide +kernel)) rfl
theorem k_198 : (.instanceMethod ⟨"RulePayroll$Runs", "totalOfRun", "(II)J"⟩ : Cond) ∈ mm_GW := mm_in (List.mem_of_getElem? (i := 450) (by decide +kernel)) rfl
theorem k_199 : (.selects "RulePayroll$Runs" ⟨"RulePayroll$Runs", "totalOfRun", "(II)J"⟩ ⟨"RulePayroll$Runs", "totalOfRun", "(II)J"⟩ : Cond) ∈ mm_GW := mm_in (List.mem_of_getElem? (i := 10) (by decide +kernel)) rfl
theorem k_200 : (.methodLink "RulePayroll" 120 ⟨"RulePayroll$Runs", "totalOf", "(I)J"⟩ : Cond) ∈ mm_GW := mm_in (List.mem_of_getElem? (i := 444) (by decide +kernel)) rfl
theorem k_201 : (.instanceMethod ⟨"RulePayroll$Runs", "totalOf", "(I)J"⟩ : Cond) ∈ mm_GW := mm_in (List.mem_of_getElem? (i := 445) (by decide +kernel)) rfl
theorem k_202 : (.selects "RulePayroll$Runs" ⟨"RulePayroll$Runs", "totalOf", "(I)J"⟩ ⟨"RulePayroll$Runs", "totalOf", "(I)J"⟩ : Cond) ∈ mm_GW := mm_in (List.mem_of_getElem? (i := 446) (by decide +kernel)) rfl
theorem k_203 : (.methodLink "RulePayroll" 124 ⟨"RulePayroll$Person", "paidSoFar", "(I)J"⟩ : Cond) ∈ mm_GW := mm_in (List.mem_of_getElem? (i := 457) (by decide +kernel)) rfl
theorem k_204 : (.methodLink "RulePayroll$Runs" 52 ⟨"RulePayroll$Runs", "slipsOf", "(I)I"⟩ : Cond) ∈ mm_GW := mm_in (List.mem_of_getElem? (i := 470) (by decide +kernel)) rfl
theorem k_205 : (.fieldLink "RulePayroll" 127 "RulePayroll$Nodes" "made" "I" : Cond) ∈ mm_GW := mm_in (List.mem_of_getElem? (i := 77) (by decide +kernel)) rfl
theorem k_206 : (.methodLink "RulePayroll" 128 ⟨"RulePayroll$Runs", "howManyTakenBack", "()I"⟩ : Cond) ∈ mm_GW := mm_in (List.mem_of_getElem? (i := 462) (by decide +kernel)) rfl
theorem k_207 : (.instanceMethod ⟨"RulePayroll$Runs", "howManyTakenBack", "()I"⟩ : Cond) ∈ mm_GW := mm_in (List.mem_of_getElem? (i := 463) (by decide +kernel)) rfl
theorem k_208 : (.selects "RulePayroll$Runs" ⟨"RulePayroll$Runs", "howManyTakenBack", "()I"⟩ ⟨"RulePayroll$Runs", "howManyTakenBack", "()I"⟩ : Cond) ∈ mm_GW := mm_in (List.mem_of_getElem? (i := 464) (by decide +kernel)) rfl
theorem k_209 : (.methodLink "RulePayroll" 131 ⟨"RulePayroll$Runs", "slipsStanding", "()I"⟩ : Cond) ∈ mm_GW := mm_in (List.mem_of_getElem? (i := 466) (by decide +kernel)) rfl
theorem k_210 : (.instanceMethod ⟨"RulePayroll$Runs", "slipsStanding", "()I"⟩ : Cond) ∈ mm_GW := mm_in (List.mem_of_getElem? (i := 467) (by decide +kernel)) rfl
theorem k_211 : (.selects "RulePayroll$Runs" ⟨"RulePayroll$Runs", "slipsStanding", "()I"⟩ ⟨"RulePayroll$Runs", "slipsStanding", "()I"⟩ : Cond) ∈ mm_GW := mm_in (List.mem_of_getElem? (i := 468) (by decide +kernel)) rfl
theorem k_212 : (.methodLink "RulePayroll" 134 ⟨"RulePayroll", "howManyActive", "()I"⟩ : Cond) ∈ mm_GW := mm_in (List.mem_of_getElem? (i := 471) (by decide +kernel)) rfl
theorem k_213 : (.instanceMethod ⟨"RulePayroll", "howManyActive", "()I"⟩ : Cond) ∈ mm_GW := mm_in (List.mem_of_getElem? (i := 473) (by decide +kernel)) rfl
theorem k_214 : (.selects "RulePayroll" ⟨"RulePayroll", "howManyActive", "()I"⟩ ⟨"RulePayroll", "howManyActive", "()I"⟩ : Cond) ∈ mm_GW := mm_in (List.mem_of_getElem? (i := 11) (by decide +kernel)) rfl
theorem k_215 : (.fieldLink "RulePayroll" 137 "RulePayroll$Table" "steps" "I" : Cond) ∈ mm_GW := mm_in (List.mem_of_getElem? (i := 109) (by decide +kernel)) rfl
theorem k_216 : (.methodLink "RulePayroll" 140 ⟨"RulePayroll$Rules", "definitionBits", "()I"⟩ : Cond) ∈ mm_GW := mm_in (List.mem_of_getElem? (i := 475) (by decide +kernel)) rfl
theorem k_217 : (.instanceMethod ⟨"RulePayroll$Rules", "definitionBits", "()I"⟩ : Cond) ∈ mm_GW := mm_in (List.mem_of_getElem? (i := 476) (by decide +kernel)) rfl
theorem k_218 : (.selects "RulePayroll$Rules" ⟨"RulePayroll$Rules", "definitionBits", "()I"⟩ ⟨"RulePayroll$Rules", "definitionBits", "()I"⟩ : Cond) ∈ mm_GW := mm_in (List.mem_of_getElem? (i := 477) (by decide +kernel)) rfl
theorem k_219 : (.fieldLink "RulePayrollModel" 7 "RulePayrollModel" "nodes" "I" : Cond) ∈ mm_GW := mm_in (List.mem_of_getElem? (i := 485) (by decide +kernel)) rfl
theorem k_220 : (.methodLink "RulePayrollModel" 76 ⟨"RulePayrollModel", "out", "(III)Z"⟩ : Cond) ∈ mm_GW := mm_in (List.mem_of_getElem? (i := 557) (by decide +kernel)) rfl
theorem k_221 : (.instanceMethod ⟨"RulePayrollModel", "out", "(III)Z"⟩ : Cond) ∈ mm_GW := mm_in (List.mem_of_getElem? (i := 559) (by decide +kernel)) rfl
theorem k_222 : (.selects "RulePayrollModel" ⟨"RulePayrollModel", "out", "(III)Z"⟩ ⟨"RulePayrollModel", "out", "(III)Z"⟩ : Cond) ∈ mm_GW := mm_in (List.mem_of_getElem? (i := 13) (by decide +kernel)) rfl
theorem k_223 : (.initialized "RulePayrollModel" : Cond) ∈ mm_GW := mm_in (List.mem_of_getElem? (i := 39) (by decide +kernel)) rfl
theorem k_224 : (.methodLink "RulePayrollModel" 84 ⟨"RulePayrollModel", "isNode", "(I)Z"⟩ : Cond) ∈ mm_GW := mm_in (List.mem_of_getElem? (i := 565) (by decide +kernel)) rfl
theorem k_225 : (.instanceMethod ⟨"RulePayrollModel", "isNode", "(I)Z"⟩ : Cond) ∈ mm_GW := mm_in (List.mem_of_getElem? (i := 567) (by decide +kernel)) rfl
theorem k_226 : (.selects "RulePayrollModel" ⟨"RulePayrollModel", "isNode", "(I)Z"⟩ ⟨"RulePayrollModel", "isNode", "(I)Z"⟩ : Cond) ∈ mm_GW := mm_in (List.mem_of_getElem? (i := 15) (by decide +kernel)) rfl
theorem k_227 : (.methodLink "RulePayrollModel" 80 ⟨"RulePayrollModel", "named", "(I)I"⟩ : Cond) ∈ mm_GW := mm_in (List.mem_of_getElem? (i := 561) (by decide +kernel)) rfl
theorem k_228 : (.instanceMethod ⟨"RulePayrollModel", "named", "(I)I"⟩ : Cond) ∈ mm_GW := mm_in (List.mem_of_getElem? (i := 563) (by decide +kernel)) rfl
theorem k_229 : (.selects "RulePayrollModel" ⟨"RulePayrollModel", "named", "(I)I"⟩ ⟨"RulePayrollModel", "named", "(I)I"⟩ : Cond) ∈ mm_GW := mm_in (List.mem_of_getElem? (i := 14) (by decide +kernel)) rfl
theorem k_230 : (.methodLink "RulePayrollModel" 88 ⟨"RulePayrollModel", "fits", "(IIII)Z"⟩ : Cond) ∈ mm_GW := mm_in (List.mem_of_getElem? (i := 553) (by decide +kernel)) rfl
theorem k_231 : (.instanceMethod ⟨"RulePayrollModel", "fits", "(IIII)Z"⟩ : Cond) ∈ mm_GW := mm_in (List.mem_of_getElem? (i := 555) (by decide +kernel)) rfl
theorem k_232 : (.selects "RulePayrollModel" ⟨"RulePayrollModel", "fits", "(IIII)Z"⟩ ⟨"RulePayrollModel", "fits", "(IIII)Z"⟩ : Cond) ∈ mm_GW := mm_in (List.mem_of_getElem? (i := 12) (by decide +kernel)) rfl
theorem k_233 : (.fieldLink "RulePayrollModel" 29 "RulePayrollModel" "level" "[I" : Cond) ∈ mm_GW := mm_in (List.mem_of_getElem? (i := 491) (by decide +kernel)) rfl
theorem k_234 : (.methodLink "RulePayrollModel" 92 ⟨"RulePayrollModel", "high", "(IZI)I"⟩ : Cond) ∈ mm_GW := mm_in (List.mem_of_getElem? (i := 569) (by decide +kernel)) rfl
theorem k_235 : (.instanceMethod ⟨"RulePayrollModel", "high", "(IZI)I"⟩ : Cond) ∈ mm_GW := mm_in (List.mem_of_getElem? (i := 571) (by decide +kernel)) rfl
theorem k_236 : (.selects "RulePayrollModel" ⟨"RulePayrollModel", "high", "(IZI)I"⟩ ⟨"RulePayrollModel", "high", "(IZI)I"⟩ : Cond) ∈ mm_GW := mm_in (List.mem_of_getElem? (i := 16) (by decide +kernel)) rfl
theorem k_237 : (.fieldLink "RulePayrollModel" 32 "RulePayrollModel" "rank" "[I" : Cond) ∈ mm_GW := mm_in (List.mem_of_getElem? (i := 492) (by decide +kernel)) rfl
theorem k_238 : (.fieldLink "RulePayrollModel" 16 "RulePayrollModel" "kind" "[I" : Cond) ∈ mm_GW := mm_in (List.mem_of_getElem? (i := 487) (by decide +kernel)) rfl
theorem k_239 : (.fieldLink "RulePayrollModel" 20 "RulePayrollModel" "opA" "[I" : Cond) ∈ mm_GW := mm_in (List.mem_of_getElem? (i := 488) (by decide +kernel)) rfl
theorem k_240 : (.fieldLink "RulePayrollModel" 23 "RulePayrollModel" "opB" "[I" : Cond) ∈ mm_GW := mm_in (List.mem_of_getElem? (i := 489) (by decide +kernel)) rfl
theorem k_241 : (.fieldLink "RulePayrollModel" 26 "RulePayrollModel" "opC" "[I" : Cond) ∈ mm_GW := mm_in (List.mem_of_getElem? (i := 490) (by decide +kernel)) rfl
theorem k_242 : (.fieldLink "RulePayrollModel" 35 "RulePayrollModel" "definition" "[I" : Cond) ∈ mm_GW := mm_in (List.mem_of_getElem? (i := 493) (by decide +kernel)) rfl
theorem k_243 : (.fieldLink "RulePayrollModel" 38 "RulePayrollModel" "steps" "[I" : Cond) ∈ mm_GW := mm_in (List.mem_of_getElem? (i := 494) (by decide +kernel)) rfl
theorem k_244 : (.fieldLink "RulePayrollModel" 41 "RulePayrollModel" "limit" "[I" : Cond) ∈ mm_GW := mm_in (List.mem_of_getElem? (i := 495) (by decide +kernel)) rfl
theorem k_245 : (.fieldLink "RulePayrollModel" 44 "RulePayrollModel" "rate" "[I" : Cond) ∈ mm_GW := mm_in (List.mem_of_getElem? (i := 496) (by decide +kernel)) rfl
theorem k_246 : (.fieldLink "RulePayrollModel" 47 "RulePayrollModel" "inputs" "[I" : Cond) ∈ mm_GW := mm_in (List.mem_of_getElem? (i := 497) (by decide +kernel)) rfl
theorem k_247 : (.fieldLink "RulePayrollModel" 50 "RulePayrollModel" "active" "[Z" : Cond) ∈ mm_GW := mm_in (List.mem_of_getElem? (i := 498) (by decide +kernel)) rfl
theorem k_248 : (.constantLong "RulePayrollModel" 96 (-2147483648) : Cond) ∈ mm_GW := mm_in (List.mem_of_getElem? (i := 609) (by decide +kernel)) rfl
theorem k_249 : (.constantLong "RulePayrollModel" 98 2147483647 : Cond) ∈ mm_GW := mm_in (List.mem_of_getElem? (i := 610) (by decide +kernel)) rfl
theorem k_250 : (.constantLong "RulePayrollModel" 104 1000000000104 : Cond) ∈ mm_GW := mm_in (List.mem_of_getElem? (i := 646) (by decide +kernel)) rfl
theorem k_251 : (.methodLink "RulePayrollModel" 100 ⟨"RulePayrollModel", "whole", "(J)Z"⟩ : Cond) ∈ mm_GW := mm_in (List.mem_of_getElem? (i := 605) (by decide +kernel)) rfl
theorem k_252 : (.instanceMethod ⟨"RulePayrollModel", "whole", "(J)Z"⟩ : Cond) ∈ mm_GW := mm_in (List.mem_of_getElem? (i := 607) (by decide +kernel)) rfl
theorem k_253 : (.selects "RulePayrollModel" ⟨"RulePayrollModel", "whole", "(J)Z"⟩ ⟨"RulePayrollModel", "whole", "(J)Z"⟩ : Cond) ∈ mm_GW := mm_in (List.mem_of_getElem? (i := 18) (by decide +kernel)) rfl
theorem k_254 : (.constantLong "RulePayrollModel" 106 1000000000001 : Cond) ∈ mm_GW := mm_in (List.mem_of_getElem? (i := 616) (by decide +kernel)) rfl
theorem k_255 : (.constantLong "RulePayrollModel" 110 1000000000100 : Cond) ∈ mm_GW := mm_in (List.mem_of_getElem? (i := 625) (by decide +kernel)) rfl
theorem k_256 : (.constantLong "RulePayrollModel" 108 1000000000102 : Cond) ∈ mm_GW := mm_in (List.mem_of_getElem? (i := 626) (by decide +kernel)) rfl
theorem k_257 : (.constantLong "RulePayrollModel" 112 1000 : Cond) ∈ mm_GW := mm_in (List.mem_of_getElem? (i := 636) (by decide +kernel)) rfl
theorem k_258 : (.methodLink "RulePayrollModel" 114 ⟨"RulePayrollModel", "rounded", "(JJ)J"⟩ : Cond) ∈ mm_GW := mm_in (List.mem_of_getElem? (i := 637) (by decide +kernel)) rfl
theorem k_259 : (.instanceMethod ⟨"RulePayrollModel", "rounded", "(JJ)J"⟩ : Cond) ∈ mm_GW := mm_in (List.mem_of_getElem? (i := 639) (by decide +kernel)) rfl
theorem k_260 : (.selects "RulePayrollModel" ⟨"RulePayrollModel", "rounded", "(JJ)J"⟩ ⟨"RulePayrollModel", "rounded", "(JJ)J"⟩ : Cond) ∈ mm_GW := mm_in (List.mem_of_getElem? (i := 24) (by decide +kernel)) rfl
theorem k_261 : (.methodLink "RulePayrollModel" 118 ⟨"RulePayrollModel", "ranged", "(J)J"⟩ : Cond) ∈ mm_GW := mm_in (List.mem_of_getElem? (i := 642) (by decide +kernel)) rfl
theorem k_262 : (.instanceMethod ⟨"RulePayrollModel", "ranged", "(J)J"⟩ : Cond) ∈ mm_GW := mm_in (List.mem_of_getElem? (i := 644) (by decide +kernel)) rfl
theorem k_263 : (.selects "RulePayrollModel" ⟨"RulePayrollModel", "ranged", "(J)J"⟩ ⟨"RulePayrollModel", "ranged", "(J)J"⟩ : Cond) ∈ mm_GW := mm_in (List.mem_of_getElem? (i := 25) (by decide +kernel)) rfl
theorem k_264 : (.fieldLink "RulePayrollModel" 70 "RulePayrollModel" "is" "[J" : Cond) ∈ mm_GW := mm_in (List.mem_of_getElem? (i := 504) (by decide +kernel)) rfl
theorem k_265 : (.methodLink "RulePayrollModel" 124 ⟨"RulePayrollModel", "stops", "(J)J"⟩ : Cond) ∈ mm_GW := mm_in (List.mem_of_getElem? (i := 628) (by decide +kernel)) rfl
theorem k_266 : (.instanceMethod ⟨"RulePayrollModel", "stops", "(J)J"⟩ : Cond) ∈ mm_GW := mm_in (List.mem_of_getElem? (i := 630) (by decide +kernel)) rfl
theorem k_267 : (.selects "RulePayrollModel" ⟨"RulePayrollModel", "stops", "(J)J"⟩ ⟨"RulePayrollModel", "stops", "(J)J"⟩ : Cond) ∈ mm_GW := mm_in (List.mem_of_getElem? (i := 22) (by decide +kernel)) rfl
theorem k_268 : (.constantLong "RulePayrollModel" 122 1000000000101 : Cond) ∈ mm_GW := mm_in (List.mem_of_getElem? (i := 627) (by decide +kernel)) rfl
theorem k_269 : (.methodLink "RulePayrollModel" 131 ⟨"RulePayrollModel", "scale", "(IJ)J"⟩ : Cond) ∈ mm_GW := mm_in (List.mem_of_getElem? (i := 632) (by decide +kernel)) rfl
theorem k_270 : (.instanceMethod ⟨"RulePayrollModel", "scale", "(IJ)J"⟩ : Cond) ∈ mm_GW := mm_in (List.mem_of_getElem? (i := 634) (by decide +kernel)) rfl
theorem k_271 : (.selects "RulePayrollModel" ⟨"RulePayrollModel", "scale", "(IJ)J"⟩ ⟨"RulePayrollModel", "scale", "(IJ)J"⟩ : Cond) ∈ mm_GW := mm_in (List.mem_of_getElem? (i := 23) (by decide +kernel)) rfl
theorem k_272 : (.fieldLink "RulePayrollModel" 67 "RulePayrollModel" "paid" "[J" : Cond) ∈ mm_GW := mm_in (List.mem_of_getElem? (i := 503) (by decide +kernel)) rfl
theorem k_273 : (.fieldLink "RulePayrollModel" 73 "RulePayrollModel" "defined" "[J" : Cond) ∈ mm_GW := mm_in (List.mem_of_getElem? (i := 505) (by decide +kernel)) rfl
theorem k_274 : (.methodLink "RulePayrollModel" 127 ⟨"RulePayrollModel", "choose", "(II)J"⟩ : Cond) ∈ mm_GW := mm_in (List.mem_of_getElem? (i := 621) (by decide +kernel)) rfl
theorem k_275 : (.instanceMethod ⟨"RulePayrollModel", "choose", "(II)J"⟩ : Cond) ∈ mm_GW := mm_in (List.mem_of_getElem? (i := 623) (by decide +kernel)) rfl
theorem k_276 : (.selects "RulePayrollModel" ⟨"RulePayrollModel", "choose", "(II)J"⟩ ⟨"RulePayrollModel", "choose", "(II)J"⟩ : Cond) ∈ mm_GW := mm_in (List.mem_of_getElem? (i := 21) (by decide +kernel)) rfl
theorem k_277 : (.methodLink "RulePayrollModel" 137 ⟨"RulePayrollModel", "plain", "(IJJ)J"⟩ : Cond) ∈ mm_GW := mm_in (List.mem_of_getElem? (i := 647) (by decide +kernel)) rfl
theorem k_278 : (.instanceMethod ⟨"RulePayrollModel", "plain", "(IJJ)J"⟩ : Cond) ∈ mm_GW := mm_in (List.mem_of_getElem? (i := 649) (by decide +kernel)) rfl
theorem k_279 : (.selects "RulePayrollModel" ⟨"RulePayrollModel", "plain", "(IJJ)J"⟩ ⟨"RulePayrollModel", "plain", "(IJJ)J"⟩ : Cond) ∈ mm_GW := mm_in (List.mem_of_getElem? (i := 26) (by decide +kernel)) rfl
theorem k_280 : (.constantLong "RulePayrollModel" 135 1000000000103 : Cond) ∈ mm_GW := mm_in (List.mem_of_getElem? (i := 641) (by decide +kernel)) rfl
theorem k_281 : (.methodLink "RulePayrollModel" 141 ⟨"RulePayrollModel", "workOut", "(II)J"⟩ : Cond) ∈ mm_GW := mm_in (List.mem_of_getElem? (i := 617) (by decide +kernel)) rfl
theorem k_282 : (.instanceMethod ⟨"RulePayrollModel", "workOut", "(II)J"⟩ : Cond) ∈ mm_GW := mm_in (List.mem_of_getElem? (i := 619) (by decide +kernel)) rfl
theorem k_283 : (.selects "RulePayrollModel" ⟨"RulePayrollModel", "workOut", "(II)J"⟩ ⟨"RulePayrollModel", "workOut", "(II)J"⟩ : Cond) ∈ mm_GW := mm_in (List.mem_of_getElem? (i := 20) (by decide +kernel)) rfl
theorem k_284 : (.constantLong "RulePayrollModel" 147 1000000000000 : Cond) ∈ mm_GW := mm_in (List.mem_of_getElem? (i := 611) (by decide +kernel)) rfl
theorem k_285 : (.methodLink "RulePayrollModel" 149 ⟨"RulePayrollModel", "person", "(I)V"⟩ : Cond) ∈ mm_GW := mm_in (List.mem_of_getElem? (i := 612) (by decide +kernel)) rfl
theorem k_286 : (.instanceMethod ⟨"RulePayrollModel", "person", "(I)V"⟩ : Cond) ∈ mm_GW := mm_in (List.mem_of_getElem? (i := 614) (by decide +kernel)) rfl
theorem k_287 : (.selects "RulePayrollModel" ⟨"RulePayrollModel", "person", "(I)V"⟩ ⟨"RulePayrollModel", "person", "(I)V"⟩ : Cond) ∈ mm_GW := mm_in (List.mem_of_getElem? (i := 19) (by decide +kernel)) rfl
theorem k_288 : (.methodLink "RulePayrollModel" 144 ⟨"RulePayrollModel", "paidWhole", "(I)Z"⟩ : Cond) ∈ mm_GW := mm_in (List.mem_of_getElem? (i := 601) (by decide +kernel)) rfl
theorem k_289 : (.instanceMethod ⟨"RulePayrollModel", "paidWhole", "(I)Z"⟩ : Cond) ∈ mm_GW := mm_in (List.mem_of_getElem? (i := 603) (by decide +kernel)) rfl
theorem k_290 : (.selects "RulePayrollModel" ⟨"RulePayrollModel", "paidWhole", "(I)Z"⟩ ⟨"RulePayrollModel", "paidWhole", "(I)Z"⟩ : Cond) ∈ mm_GW := mm_in (List.mem_of_getElem? (i := 17) (by decide +kernel)) rfl
theorem k_291 : (.fieldLink "RulePayrollModel" 57 "RulePayrollModel" "has" "[Z" : Cond) ∈ mm_GW := mm_in (List.mem_of_getElem? (i := 500) (by decide +kernel)) rfl
theorem k_292 : (.fieldLink "RulePayrollModel" 63 "RulePayrollModel" "slip" "[J" : Cond) ∈ mm_GW := mm_in (List.mem_of_getElem? (i := 502) (by decide +kernel)) rfl
theorem k_293 : (.fieldLink "RulePayrollModel" 54 "RulePayrollModel" "taken" "[Z" : Cond) ∈ mm_GW := mm_in (List.mem_of_getElem? (i := 499) (by decide +kernel)) rfl
theorem k_294 : (.fieldLink "RulePayrollModel" 60 "RulePayrollModel" "reason" "[I" : Cond) ∈ mm_GW := mm_in (List.mem_of_getElem? (i := 501) (by decide +kernel)) rfl
theorem k_295 : (.methodLink "RulePayrollModel" 153 ⟨"RulePayrollModel", "payOne", "(II)I"⟩ : Cond) ∈ mm_GW := mm_in (List.mem_of_getElem? (i := 659) (by decide +kernel)) rfl
theorem k_296 : (.instanceMethod ⟨"RulePayrollModel", "payOne", "(II)I"⟩ : Cond) ∈ mm_GW := mm_in (List.mem_of_getElem? (i := 661) (by decide +kernel)) rfl
theorem k_297 : (.selects "RulePayrollModel" ⟨"RulePayrollModel", "payOne", "(II)I"⟩ ⟨"RulePayrollModel", "payOne", "(II)I"⟩ : Cond) ∈ mm_GW := mm_in (List.mem_of_getElem? (i := 28) (by decide +kernel)) rfl
theorem k_298 : (.fieldLink "RulePayrollModel" 13 "RulePayrollModel" "runs" "I" : Cond) ∈ mm_GW := mm_in (List.mem_of_getElem? (i := 486) (by decide +kernel)) rfl
theorem k_299 : (.methodLink "RulePayrollModel" 157 ⟨"RulePayrollModel", "payAll", "(I)V"⟩ : Cond) ∈ mm_GW := mm_in (List.mem_of_getElem? (i := 655) (by decide +kernel)) rfl
theorem k_300 : (.instanceMethod ⟨"RulePayrollModel", "payAll", "(I)V"⟩ : Cond) ∈ mm_GW := mm_in (List.mem_of_getElem? (i := 657) (by decide +kernel)) rfl
theorem k_301 : (.selects "RulePayrollModel" ⟨"RulePayrollModel", "payAll", "(I)V"⟩ ⟨"RulePayrollModel", "payAll", "(I)V"⟩ : Cond) ∈ mm_GW := mm_in (List.mem_of_getElem? (i := 27) (by decide +kernel)) rfl
theorem k_302 : (.methodLink "RulePayrollModel" 160 ⟨"RulePayrollModel", "takeBack", "(I)V"⟩ : Cond) ∈ mm_GW := mm_in (List.mem_of_getElem? (i := 667) (by decide +kernel)) rfl
theorem k_303 : (.instanceMethod ⟨"RulePayrollModel", "takeBack", "(I)V"⟩ : Cond) ∈ mm_GW := mm_in (List.mem_of_getElem? (i := 669) (by decide +kernel)) rfl
theorem k_304 : (.selects "RulePayrollModel" ⟨"RulePayrollModel", "takeBack", "(I)V"⟩ ⟨"RulePayrollModel", "takeBack", "(I)V"⟩ : Cond) ∈ mm_GW := mm_in (List.mem_of_getElem? (i := 29) (by decide +kernel)) rfl
theorem k_305 : (.methodLink "RulePayrollModel" 163 ⟨"RulePayrollModel", "slips", "(I)I"⟩ : Cond) ∈ mm_GW := mm_in (List.mem_of_getElem? (i := 675) (by decide +kernel)) rfl
theorem k_306 : (.instanceMethod ⟨"RulePayrollModel", "slips", "(I)I"⟩ : Cond) ∈ mm_GW := mm_in (List.mem_of_getElem? (i := 677) (by decide +kernel)) rfl
theorem k_307 : (.selects "RulePayrollModel" ⟨"RulePayrollModel", "slips", "(I)I"⟩ ⟨"RulePayrollModel", "slips", "(I)I"⟩ : Cond) ∈ mm_GW := mm_in (List.mem_of_getElem? (i := 30) (by decide +kernel)) rfl
end
section
/-! MEMORY of a fixed layout: cells by tags; what they hold is two functions: ints I tag place, longs L tag place; references stay as they are -/
abbrev mm_Kd : Type := Unit ⊕ Unit ⊕ Option Nat
abbrev mm_Sh : Type := (Nat × Nat × (Unit ⊕ Unit ⊕ (Nat → Option Nat))) ⊕ (Nat × List mm_Kd)
abbrev mm_I : Type := Nat → Nat → Int32
abbrev mm_L : Type := Nat → Nat → Int64
def mm_val (ad : Nat → Nat) (f : Nat → Int32) (g : Nat → Int64) (k : Nat) (d : mm_Kd) : Value := match d with
  | .inl _ => .int (f k)
  | .inr (.inl _) => .long (g k)
  | .inr (.inr r) => va_rf (r.map ad)
def mm_fl (ad : Nat → Nat) (f : Nat → Int32) (g : Nat → Int64) : Nat → List mm_Kd → List Value
  | _, [] => []
  | n, d :: ds => mm_val ad f g n d :: mm_fl ad f g (n + 1) ds
def mm_cell (tc : Nat → ClassId) (ad : Nat → Nat) (f : Nat → Int32) (g : Nat → Int64) (sh : mm_Sh) : va_E := match sh with
  | .inl (ti, n, .inl _) => .inl (tc ti, n, .inl f)
  | .inl (ti, n, .inr (.inl _)) => .inl (tc ti, n, .inr (.inl g))
  | .inl (ti, n, .inr (.inr r)) => .inl (tc ti, n, .inr (.inr (.inr (.inr (fun j => (r j).map ad)))))
  | .inr (ci, ds) => .inr (ci, mm_fl ad f g 0 ds)
def mm_wl (N : Nat) (tc : Nat → ClassId) (ad : Nat → Nat) (lay : Nat → mm_Sh) (I : mm_I) (L : mm_L) : va_W := (List.range N).map fun t => (ad t, mm_cell tc ad (I t) (L t) (lay t))
def mm_uI (I : mm_I) (t k : Nat) (v : Int32) : mm_I := va_up I t (upd (I t) k v)
def mm_uL (L : mm_L) (t k : Nat) (v : Int64) : mm_L := va_up L t (vp_updL (L t) k v)
theorem mm_uI_at (I : mm_I) (t k : Nat) (v : Int32) : mm_uI I t k v t = upd (I t) k v := if_pos rfl
theorem mm_uL_at (L : mm_L) (t k : Nat) (v : Int64) : mm_uL L t k v t = vp_updL (L t) k v := if_pos rfl
theorem mm_uI_ne (I : mm_I) {t t' : Nat} (k : Nat) (v : Int32) (h : t' ≠ t) : mm_uI I t k v t' = I t' := if_neg h
theorem mm_uL_ne (L : mm_L) {t t' : Nat} (k : Nat) (v : Int64) (h : t' ≠ t) : mm_uL L t k v t' = L t' := if_neg h
theorem mm_fl_get (ad : Nat → Nat) (f : Nat → Int32) (g : Nat → Int64) : ∀ (ds : List mm_Kd) (n k : Nat), (mm_fl ad f g n ds)[k]? = (ds[k]?).map (mm_val ad f g (n + k))
  | [], _, _ => rfl
  | _ :: _, _, 0 => rfl
  | _ :: ds, n, k + 1 => by
    have h := mm_fl_get ad f g ds (n + 1) k
    rw [show n + (k + 1) = n + 1 + k by omega]
    exact h
theorem mm_fl_len (ad : Nat → Nat) (f : Nat → Int32) (g : Nat → Int64) : ∀ (ds : List mm_Kd) (n : Nat), (mm_fl ad f g n ds).length = ds.length
  | [], _ => rfl
  | _ :: ds, n => by
    show (mm_fl ad f g (n + 1) ds).length + 1 = ds.length + 1
    rw [mm_fl_len ad f g ds (n + 1)]
theorem mm_fl_eq {ad : Nat → Nat} {f f' : Nat → Int32} {g g' : Nat → Int64} : ∀ (ds : List mm_Kd) (n : Nat), (∀ k, n ≤ k → f k = f' k) → (∀ k, n ≤ k → g k = g' k) → mm_fl ad f g n ds = mm_fl ad f' g' n ds
  | [], _, _, _ => rfl
  | d :: ds, n, h, h2 => by
    show mm_val ad f g n d :: mm_fl ad f g (n + 1) ds = mm_val ad f' g' n d :: mm_fl ad f' g' (n + 1) ds
    rw [mm_fl_eq ds (n + 1) (fun k hk => h k (by omega)) (fun k hk => h2 k (by omega))]
    congr 1
    rcases d with d | d | d
    · show Value.int (f n) = Value.int (f' n)
      rw [h n (Nat.le_refl n)]
    · show Value.long (g n) = Value.long (g' n)
      rw [h2 n (Nat.le_refl n)]
    · rfl
theorem mm_fl_setI (ad : Nat → Nat) (f : Nat → Int32) (g : Nat → Int64) (v : Int32) : ∀ (ds : List mm_Kd) (n k : Nat), ds[k]? = some (.inl ()) → (mm_fl ad f g n ds).set k (.int v) = mm_fl ad (upd f (n + k) v) g n ds
  | [], _, _, h => by simp at h
  | d :: ds, n, 0, h => by
    have hd : d = .inl () := by simpa using h
    subst hd
    show Value.int v :: mm_fl ad f g (n + 1) ds = Value.int (upd f (n + 0) v n) :: mm_fl ad (upd f (n + 0) v) g (n + 1) ds
    rw [mm_fl_eq (f := f) (f' := upd f (n + 0) v) (g := g) (g' := g) ds (n + 1) (fun k hk => by simp [upd, show k ≠ n by omega]) (fun _ _ => rfl)]
    simp [upd]
  | d :: ds, n, k + 1, h => by
    have h' : ds[k]? = some (.inl ()) := by simpa using h
    show mm_val ad f g n d :: (mm_fl ad f g (n + 1) ds).set k (.int v) = mm_val ad (upd f (n + (k + 1)) v) g n d :: mm_fl ad (upd f (n + (k + 1)) v) g (n + 1) ds
    rw [mm_fl_setI ad f g v ds (n + 1) k h', show n + 1 + k = n + (k + 1) by omega]
    congr 1
    rcases d with d | d | d
    · show Value.int (f n) = Value.int (upd f (n + (k + 1)) v n)
      simp [upd]
    · rfl
    · rfl
theorem mm_fl_setL (ad : Nat → Nat) (f : Nat → Int32) (g : Nat → Int64) (v : Int64) : ∀ (ds : List mm_Kd) (n k : Nat), ds[k]? = some (.inr (.inl ())) → (mm_fl ad f g n ds).set k (.long v) = mm_fl ad f (vp_updL g (n + k) v) n ds
  | [], _, _, h => by simp at h
  | d :: ds, n, 0, h => by
    have hd : d = .inr (.inl ()) := by simpa using h
    subst hd
    show Value.long v :: mm_fl ad f g (n + 1) ds = Value.long (vp_updL g (n + 0) v n) :: mm_fl ad f (vp_updL g (n + 0) v) (n + 1) ds
    rw [mm_fl_eq (f := f) (f' := f) (g := g) (g' := vp_updL g (n + 0) v) ds (n + 1) (fun _ _ => rfl) (fun k hk => by simp [vp_updL, show k ≠ n by omega])]
    simp [vp_updL]
  | d :: ds, n, k + 1, h => by
    have h' : ds[k]? = some (.inr (.inl ())) := by simpa using h
    show mm_val ad f g n d :: (mm_fl ad f g (n + 1) ds).set k (.long v) = mm_val ad f (vp_updL g (n + (k + 1)) v) n d :: mm_fl ad f (vp_updL g (n + (k + 1)) v) (n + 1) ds
    rw [mm_fl_setL ad f g v ds (n + 1) k h', show n + 1 + k = n + (k + 1) by omega]
    congr 1
    rcases d with d | d | d
    · rfl
    · show Value.long (g n) = Value.long (vp_updL g (n + (k + 1)) v n)
      simp [vp_updL]
    · rfl
theorem mm_wl_at {N : Nat} {tc : Nat → ClassId} {ad : Nat → Nat} {lay : Nat → mm_Sh} {I : mm_I} {L : mm_L} {t : Nat} (ht : t < N) : (mm_wl N tc ad lay I L)[t]? = some (ad t, mm_cell tc ad (I t) (L t) (lay t)) := by
  simp [mm_wl, ht]
theorem mm_wl_set {N : Nat} {tc : Nat → ClassId} {ad : Nat → Nat} {lay : Nat → mm_Sh} {I I' : mm_I} {L L' : mm_L} {t : Nat} (ht : t < N) {x : va_E} (h1 : mm_cell tc ad (I' t) (L' t) (lay t) = x) (h2 : ∀ t', t' ≠ t → I' t' = I t') (h3 : ∀ t', t' ≠ t → L' t' = L t') : (mm_wl N tc ad lay I L).set t (ad t, x) = mm_wl N tc ad lay I' L' := by
  apply List.ext_getElem?
  intro i
  by_cases hi : i = t
  · subst hi
    rw [List.getElem?_set_self (by simp [mm_wl, ht]), mm_wl_at ht, h1]
  · rw [List.getElem?_set_ne (Ne.symm hi)]
    by_cases hN : i < N
    · rw [mm_wl_at hN, mm_wl_at hN, h2 i hi, h3 i hi]
    · rw [List.getElem?_eq_none (by simp [mm_wl]; omega), List.getElem?_eq_none (by simp [mm_wl]; omega)]
theorem mm_D_any {N : Nat} {tc : Nat → ClassId} {ad : Nat → Nat} {lay : Nat → mm_Sh} {I I' : mm_I} {L L' : mm_L} {A : Nat → Prop} (h : va_D A (mm_wl N tc ad lay I L)) : va_D A (mm_wl N tc ad lay I' L') := by
  have len : ∀ (J : mm_I) (M : mm_L) (i : Nat) (q : Nat × va_E), (mm_wl N tc ad lay J M)[i]? = some q → i < N ∧ q.1 = ad i := by
    intro J M i q hq
    have hi : i < N := by
      have := (List.getElem?_eq_some_iff.mp hq).1
      simpa [mm_wl] using this
    rw [mm_wl_at hi] at hq
    cases hq
    exact ⟨hi, rfl⟩
  refine ⟨fun i j p q hp hq e => ?_, fun k q hq => ?_⟩
  · obtain ⟨hi, e1⟩ := len _ _ _ _ hp
    obtain ⟨hj, e2⟩ := len _ _ _ _ hq
    exact h.1 i j _ _ (mm_wl_at hi) (mm_wl_at hj) (by show ad i = ad j; rw [← e1, ← e2, e])
  · obtain ⟨hi, e1⟩ := len _ _ _ _ hq
    rw [e1]
    exact h.2 k _ (mm_wl_at hi)
section MMW
variable {p : Program} {l : Launch} {e : Env} {R : Room} {s : State} {m : MethodId} {args : Array Value} {below : List Frame} {meth : Method} {c : Code} {H H0 : Heap} {locs : List Loc} {cells slots : Nat} {Q : State → Prop}
variable {cc : ByteArray} {pc : Nat} {ls : Array Slot} {rest : List Value} {D : va_G} {cl : List vw_C} {tys : List (ClassId × FieldType)} {A : Nat → Prop}
variable {N : Nat} {tc : Nat → ClassId} {ad : Nat → Nat} {lay : Nat → mm_Sh} {I : mm_I} {L : mm_L}
theorem mm_gi (hexec : p.tables.exec = Jvm.exec) (hb : c.code = cc) {own ref C : String} {T : u_T} {N0 ci index : Nat} {Ts : List Cond} (hts : ∀ w ∈ Ts, w.before args s = true) (hin : ∀ w ∈ u_ws C T N0, w ∈ Ts) (hown : s.vm.findClass own = some m.cls) (hK : va_K D cl tys s) (hP : va_P D cl (mm_wl N tc ad lay I L) H) {t : Nat} (ht : t < N) {ds : List mm_Kd} (hl : lay t = .inr (ci, ds)) (hc : cl[ci]? = some (C, T, N0)) (k : Nat) (hk : k < N0) (hlink : (Cond.fieldLink own index ref (T k).2.1 (T k).2.2.1).before args s = true) (hsame : ∀ x, s.fieldFound? (T k).1 (T k).2.1 (T k).2.2.1 = some x → s.fieldFound? ref (T k).2.1 (T k).2.2.1 = some x) (hd : ds[k]? = some (.inl ())) (hdg : decode cc pc = .ok (.getfield index, 3))
    (kk : W p l e R s m args below meth c H locs cells slots Q (F0 m (pc + 3) ls (.int (I t k) :: rest))) : W p l e R s m args below meth c H locs cells slots Q (F0 m pc ls (.ref (ad t) :: rest)) :=
  va_get hexec hb hts hin hown hK hP t (fs := mm_fl ad (I t) (L t) 0 ds) (by rw [mm_wl_at ht, hl]; rfl) hc k hk hlink hsame (v := .int (I t k)) (by rw [mm_fl_get, hd]; simp [mm_val]) hdg kk
theorem mm_gl (hexec : p.tables.exec = Jvm.exec) (hb : c.code = cc) {own ref C : String} {T : u_T} {N0 ci index : Nat} {Ts : List Cond} (hts : ∀ w ∈ Ts, w.before args s = true) (hin : ∀ w ∈ u_ws C T N0, w ∈ Ts) (hown : s.vm.findClass own = some m.cls) (hK : va_K D cl tys s) (hP : va_P D cl (mm_wl N tc ad lay I L) H) {t : Nat} (ht : t < N) {ds : List mm_Kd} (hl : lay t = .inr (ci, ds)) (hc : cl[ci]? = some (C, T, N0)) (k : Nat) (hk : k < N0) (hlink : (Cond.fieldLink own index ref (T k).2.1 (T k).2.2.1).before args s = true) (hsame : ∀ x, s.fieldFound? (T k).1 (T k).2.1 (T k).2.2.1 = some x → s.fieldFound? ref (T k).2.1 (T k).2.2.1 = some x) (hd : ds[k]? = some (.inr (.inl ()))) (hdg : decode cc pc = .ok (.getfield index, 3))
    (kk : W p l e R s m args below meth c H locs cells slots Q (F0 m (pc + 3) ls (.long (L t k) :: rest))) : W p l e R s m args below meth c H locs cells slots Q (F0 m pc ls (.ref (ad t) :: rest)) :=
  va_get hexec hb hts hin hown hK hP t (fs := mm_fl ad (I t) (L t) 0 ds) (by rw [mm_wl_at ht, hl]; rfl) hc k hk hlink hsame (v := .long (L t k)) (by rw [mm_fl_get, hd]; simp [mm_val]) hdg kk
theorem mm_gr (hexec : p.tables.exec = Jvm.exec) (hb : c.code = cc) {own ref C : String} {T : u_T} {N0 ci index : Nat} {Ts : List Cond} (hts : ∀ w ∈ Ts, w.before args s = true) (hin : ∀ w ∈ u_ws C T N0, w ∈ Ts) (hown : s.vm.findClass own = some m.cls) (hK : va_K D cl tys s) (hP : va_P D cl (mm_wl N tc ad lay I L) H) {t : Nat} (ht : t < N) {ds : List mm_Kd} (hl : lay t = .inr (ci, ds)) (hc : cl[ci]? = some (C, T, N0)) (k : Nat) (hk : k < N0) (hlink : (Cond.fieldLink own index ref (T k).2.1 (T k).2.2.1).before args s = true) (hsame : ∀ x, s.fieldFound? (T k).1 (T k).2.1 (T k).2.2.1 = some x → s.fieldFound? ref (T k).2.1 (T k).2.2.1 = some x) {r : Nat} (hd : ds[k]? = some (.inr (.inr (some r)))) (hdg : decode cc pc = .ok (.getfield index, 3))
    (kk : W p l e R s m args below meth c H locs cells slots Q (F0 m (pc + 3) ls (.ref (ad r) :: rest))) : W p l e R s m args below meth c H locs cells slots Q (F0 m pc ls (.ref (ad t) :: rest)) :=
  va_get hexec hb hts hin hown hK hP t (fs := mm_fl ad (I t) (L t) 0 ds) (by rw [mm_wl_at ht, hl]; rfl) hc k hk hlink hsame (v := .ref (ad r)) (by rw [mm_fl_get, hd]; simp [mm_val, va_rf]) hdg kk
theorem mm_pi (hexec : p.tables.exec = Jvm.exec) (hb : c.code = cc) {own ref C : String} {T : u_T} {N0 ci index : Nat} {Ts : List Cond} (hts : ∀ w ∈ Ts, w.before args s = true) (hin : ∀ w ∈ u_ws C T N0, w ∈ Ts) (ty0 : Nat → FieldType) (hty : ∀ k, k < N0 → parseFieldDescriptor (T k).2.2.1 = some (ty0 k)) (hnm : ∀ a, a < N0 → ∀ b, b < N0 → a ≠ b → (T a).2.1 ≠ (T b).2.1) (hown : s.vm.findClass own = some m.cls) (hK : va_K D cl tys s) (hP : va_P D cl (mm_wl N tc ad lay I L) H) (hD : va_D A (mm_wl N tc ad lay I L)) (hS0 : va_S A H0 H locs) {t : Nat} (ht : t < N) {ds : List mm_Kd} (hl : lay t = .inr (ci, ds)) (hc : cl[ci]? = some (C, T, N0)) (k : Nat) (hk : k < N0) (hlink : (Cond.fieldLink own index ref (T k).2.1 (T k).2.2.1).before args s = true) (hsame : ∀ x, s.fieldFound? (T k).1 (T k).2.1 (T k).2.2.1 = some x → s.fieldFound? ref (T k).2.1 (T k).2.2.1 = some x) (hfin : (T k).2.2.2 = false) {ty : FieldType} {v : Int32} (hdy : parseFieldDescriptor (T k).2.2.1 = some ty) (hn : narrow ty (.int v) = .int v) (hfit : fits ty (.int v) = true) (hd : ds[k]? = some (.inl ())) (hdg : decode cc pc = .ok (.putfield index, 3))
    (kk : ∀ (H1 : Heap) (locs1 : List Loc), va_P D cl (mm_wl N tc ad lay (mm_uI I t k v) L) H1 → va_D A (mm_wl N tc ad lay (mm_uI I t k v) L) → va_S A H0 H1 locs1 → W p l e R s m args below meth c H1 locs1 cells slots Q (F0 m (pc + 3) ls rest)) : W p l e R s m args below meth c H locs cells slots Q (F0 m pc ls (.int v :: .ref (ad t) :: rest)) := by
  have hset : (mm_wl N tc ad lay I L).set t (ad t, .inr (ci, (mm_fl ad (I t) (L t) 0 ds).set k (.int v))) = mm_wl N tc ad lay (mm_uI I t k v) L := by
    refine mm_wl_set ht ?_ (fun t' h => mm_uI_ne I k v h) (fun _ _ => rfl)
    rw [hl, mm_uI_at, mm_fl_setI ad (I t) (L t) v ds 0 k hd, Nat.zero_add]
    rfl
  have hlen : k < (mm_fl ad (I t) (L t) 0 ds).length := by
    rw [mm_fl_len]
    exact (List.getElem?_eq_some_iff.mp hd).1
  refine va_put hexec hb hts hin ty0 hty hnm hown hK hP hD hS0 t (fs := mm_fl ad (I t) (L t) 0 ds) (by rw [mm_wl_at ht, hl]; rfl) hc k hk hlink hsame hfin hdy hn hfit hlen hdg (fun H1 locs1 h1 h2 h3 => kk H1 locs1 (by rw [← hset]; exact h1) (by rw [← hset]; exact h2) h3)
theorem mm_pl (hexec : p.tables.exec = Jvm.exec) (hb : c.code = cc) {own ref C : String} {T : u_T} {N0 ci index : Nat} {Ts : List Cond} (hts : ∀ w ∈ Ts, w.before args s = true) (hin : ∀ w ∈ u_ws C T N0, w ∈ Ts) (ty0 : Nat → FieldType) (hty : ∀ k, k < N0 → parseFieldDescriptor (T k).2.2.1 = some (ty0 k)) (hnm : ∀ a, a < N0 → ∀ b, b < N0 → a ≠ b → (T a).2.1 ≠ (T b).2.1) (hown : s.vm.findClass own = some m.cls) (hK : va_K D cl tys s) (hP : va_P D cl (mm_wl N tc ad lay I L) H) (hD : va_D A (mm_wl N tc ad lay I L)) (hS0 : va_S A H0 H locs) {t : Nat} (ht : t < N) {ds : List mm_Kd} (hl : lay t = .inr (ci, ds)) (hc : cl[ci]? = some (C, T, N0)) (k : Nat) (hk : k < N0) (hlink : (Cond.fieldLink own index ref (T k).2.1 (T k).2.2.1).before args s = true) (hsame : ∀ x, s.fieldFound? (T k).1 (T k).2.1 (T k).2.2.1 = some x → s.fieldFound? ref (T k).2.1 (T k).2.2.1 = some x) (hfin : (T k).2.2.2 = false) {v : Int64} (hdy : parseFieldDescriptor (T k).2.2.1 = some .long) (hd : ds[k]? = some (.inr (.inl ()))) (hdg : decode cc pc = .ok (.putfield index, 3))
    (kk : ∀ (H1 : Heap) (locs1 : List Loc), va_P D cl (mm_wl N tc ad lay I (mm_uL L t k v)) H1 → va_D A (mm_wl N tc ad lay I (mm_uL L t k v)) → va_S A H0 H1 locs1 → W p l e R s m args below meth c H1 locs1 cells slots Q (F0 m (pc + 3) ls rest)) : W p l e R s m args below meth c H locs cells slots Q (F0 m pc ls (.long v :: .ref (ad t) :: rest)) := by
  have hset : (mm_wl N tc ad lay I L).set t (ad t, .inr (ci, (mm_fl ad (I t) (L t) 0 ds).set k (.long v))) = mm_wl N tc ad lay I (mm_uL L t k v) := by
    refine mm_wl_set ht ?_ (fun _ _ => rfl) (fun t' h => mm_uL_ne L k v h)
    rw [hl, mm_uL_at, mm_fl_setL ad (I t) (L t) v ds 0 k hd, Nat.zero_add]
    rfl
  have hlen : k < (mm_fl ad (I t) (L t) 0 ds).length := by
    rw [mm_fl_len]
    exact (List.getElem?_eq_some_iff.mp hd).1
  refine va_put hexec hb hts hin ty0 hty hnm hown hK hP hD hS0 t (fs := mm_fl ad (I t) (L t) 0 ds) (by rw [mm_wl_at ht, hl]; rfl) hc k hk hlink hsame hfin hdy rfl rfl hlen hdg (fun H1 locs1 h1 h2 h3 => kk H1 locs1 (by rw [← hset]; exact h1) (by rw [← hset]; exact h2) h3)
theorem mm_iald (hexec : p.tables.exec = Jvm.exec) (hb : c.code = cc) (hK : va_K D cl tys s) (hP : va_P D cl (mm_wl N tc ad lay I L) H) {t ti n : Nat} {u : Unit} (ht : t < N) (hl : lay t = .inl (ti, n, .inl u)) (hty : tys[ti]? = some (tc ti, .int)) {i : Int32} (hin : vp_in i n) (hdg : decode cc pc = .ok (.iaload, 1))
    (kk : W p l e R s m args below meth c H locs cells slots Q (F0 m (pc + 1) ls (.int (I t i.toNatClampNeg) :: rest))) : W p l e R s m args below meth c H locs cells slots Q (F0 m pc ls (.int i :: .ref (ad t) :: rest)) :=
  va_iald hexec hb hK hP t ti (by rw [mm_wl_at ht, hl]; rfl) hty hin hdg kk
theorem mm_zald (hexec : p.tables.exec = Jvm.exec) (hb : c.code = cc) (hK : va_K D cl tys s) (hP : va_P D cl (mm_wl N tc ad lay I L) H) {t ti n : Nat} {u : Unit} (ht : t < N) (hl : lay t = .inl (ti, n, .inl u)) (hty : tys[ti]? = some (tc ti, .boolean)) {i : Int32} (hin : vp_in i n) (hdg : decode cc pc = .ok (.baload, 1))
    (kk : W p l e R s m args below meth c H locs cells slots Q (F0 m (pc + 1) ls (.int (I t i.toNatClampNeg) :: rest))) : W p l e R s m args below meth c H locs cells slots Q (F0 m pc ls (.int i :: .ref (ad t) :: rest)) :=
  va_zald hexec hb hK hP t ti (by rw [mm_wl_at ht, hl]; rfl) hty hin hdg kk
theorem mm_lald (hexec : p.tables.exec = Jvm.exec) (hb : c.code = cc) (hK : va_K D cl tys s) (hP : va_P D cl (mm_wl N tc ad lay I L) H) {t ti n : Nat} {u : Unit} (ht : t < N) (hl : lay t = .inl (ti, n, .inr (.inl u))) (hty : tys[ti]? = some (tc ti, .long)) {i : Int32} (hin : vp_in i n) (hdg : decode cc pc = .ok (.laload, 1))
    (kk : W p l e R s m args below meth c H locs cells slots Q (F0 m (pc + 1) ls (.long (L t i.toNatClampNeg) :: rest))) : W p l e R s m args below meth c H locs cells slots Q (F0 m pc ls (.int i :: .ref (ad t) :: rest)) :=
  va_lald hexec hb hK hP t ti (by rw [mm_wl_at ht, hl]; rfl) hty hin hdg kk
theorem mm_aald (hexec : p.tables.exec = Jvm.exec) (hb : c.code = cc) (hK : va_K D cl tys s) (hP : va_P D cl (mm_wl N tc ad lay I L) H) {t ti n : Nat} {f : Nat → Option Nat} {C : String} (ht : t < N) (hl : lay t = .inl (ti, n, .inr (.inr f))) (hty : tys[ti]? = some (tc ti, .object C)) {i : Int32} (hin : vp_in i n) {r : Nat} (hr : f i.toNatClampNeg = some r) (hdg : decode cc pc = .ok (.aaload, 1))
    (kk : W p l e R s m args below meth c H locs cells slots Q (F0 m (pc + 1) ls (.ref (ad r) :: rest))) : W p l e R s m args below meth c H locs cells slots Q (F0 m pc ls (.int i :: .ref (ad t) :: rest)) :=
  va_aldq hexec hb hK hP t ti (f := fun j => (f j).map ad) (by rw [mm_wl_at ht, hl]; rfl) hty hin hdg (by rw [hr]; exact kk)
theorem mm_iast (hexec : p.tables.exec = Jvm.exec) (hb : c.code = cc) (hK : va_K D cl tys s) (hP : va_P D cl (mm_wl N tc ad lay I L) H) (hD : va_D A (mm_wl N tc ad lay I L)) (hS : va_S A H0 H locs) {t ti n : Nat} {u : Unit} (ht : t < N) (hl : lay t = .inl (ti, n, .inl u)) (hty : tys[ti]? = some (tc ti, .int)) {i x : Int32} (hin : vp_in i n) (hdg : decode cc pc = .ok (.iastore, 1))
    (kk : ∀ (H1 : Heap) (locs1 : List Loc), va_P D cl (mm_wl N tc ad lay (mm_uI I t i.toNatClampNeg x) L) H1 → va_D A (mm_wl N tc ad lay (mm_uI I t i.toNatClampNeg x) L) → va_S A H0 H1 locs1 → W p l e R s m args below meth c H1 locs1 cells slots Q (F0 m (pc + 1) ls rest)) : W p l e R s m args below meth c H locs cells slots Q (F0 m pc ls (.int x :: .int i :: .ref (ad t) :: rest)) := by
  have hset : (mm_wl N tc ad lay I L).set t (ad t, .inl (tc ti, n, .inl (upd (I t) i.toNatClampNeg x))) = mm_wl N tc ad lay (mm_uI I t i.toNatClampNeg x) L := by
    refine mm_wl_set ht ?_ (fun t' h => mm_uI_ne I _ x h) (fun _ _ => rfl)
    rw [hl, mm_uI_at]
    rfl
  exact va_iast hexec hb hK hP hD hS t ti (by rw [mm_wl_at ht, hl]; rfl) hty hin hdg (fun H1 locs1 h1 h2 h3 => kk H1 locs1 (by rw [← hset]; exact h1) (by rw [← hset]; exact h2) h3)
theorem mm_zast (hexec : p.tables.exec = Jvm.exec) (hb : c.code = cc) (hK : va_K D cl tys s) (hP : va_P D cl (mm_wl N tc ad lay I L) H) (hD : va_D A (mm_wl N tc ad lay I L)) (hS : va_S A H0 H locs) {t ti n : Nat} {u : Unit} (ht : t < N) (hl : lay t = .inl (ti, n, .inl u)) (hty : tys[ti]? = some (tc ti, .boolean)) {i x : Int32} (hin : vp_in i n) (hdg : decode cc pc = .ok (.bastore, 1))
    (kk : ∀ (H1 : Heap) (locs1 : List Loc), va_P D cl (mm_wl N tc ad lay (mm_uI I t i.toNatClampNeg (vp_nar .boolean x)) L) H1 → va_D A (mm_wl N tc ad lay (mm_uI I t i.toNatClampNeg (vp_nar .boolean x)) L) → va_S A H0 H1 locs1 → W p l e R s m args below meth c H1 locs1 cells slots Q (F0 m (pc + 1) ls rest)) : W p l e R s m args below meth c H locs cells slots Q (F0 m pc ls (.int x :: .int i :: .ref (ad t) :: rest)) := by
  have hset : (mm_wl N tc ad lay I L).set t (ad t, .inl (tc ti, n, .inl (upd (I t) i.toNatClampNeg (vp_nar .boolean x)))) = mm_wl N tc ad lay (mm_uI I t i.toNatClampNeg (vp_nar .boolean x)) L := by
    refine mm_wl_set ht ?_ (fun t' h => mm_uI_ne I _ _ h) (fun _ _ => rfl)
    rw [hl, mm_uI_at]
    rfl
  exact va_zast hexec hb hK hP hD hS t ti (by rw [mm_wl_at ht, hl]; rfl) hty hin hdg (fun H1 locs1 h1 h2 h3 => kk H1 locs1 (by rw [← hset]; exact h1) (by rw [← hset]; exact h2) h3)
theorem mm_last (hexec : p.tables.exec = Jvm.exec) (hb : c.code = cc) (hK : va_K D cl tys s) (hP : va_P D cl (mm_wl N tc ad lay I L) H) (hD : va_D A (mm_wl N tc ad lay I L)) (hS : va_S A H0 H locs) {t ti n : Nat} {u : Unit} (ht : t < N) (hl : lay t = .inl (ti, n, .inr (.inl u))) (hty : tys[ti]? = some (tc ti, .long)) {i : Int32} {x : Int64} (hin : vp_in i n) (hdg : decode cc pc = .ok (.lastore, 1))
    (kk : ∀ (H1 : Heap) (locs1 : List Loc), va_P D cl (mm_wl N tc ad lay I (mm_uL L t i.toNatClampNeg x)) H1 → va_D A (mm_wl N tc ad lay I (mm_uL L t i.toNatClampNeg x)) → va_S A H0 H1 locs1 → W p l e R s m args below meth c H1 locs1 cells slots Q (F0 m (pc + 1) ls rest)) : W p l e R s m args below meth c H locs cells slots Q (F0 m pc ls (.long x :: .int i :: .ref (ad t) :: rest)) := by
  have hset : (mm_wl N tc ad lay I L).set t (ad t, .inl (tc ti, n, .inr (.inl (vp_updL (L t) i.toNatClampNeg x)))) = mm_wl N tc ad lay I (mm_uL L t i.toNatClampNeg x) := by
    refine mm_wl_set ht ?_ (fun _ _ => rfl) (fun t' h => mm_uL_ne L _ x h)
    rw [hl, mm_uL_at]
    rfl
  exact va_last hexec hb hK hP hD hS t ti (by rw [mm_wl_at ht, hl]; rfl) hty hin hdg (fun H1 locs1 h1 h2 h3 => kk H1 locs1 (by rw [← hset]; exact h1) (by rw [← hset]; exact h2) h3)
theorem mm_alen (hexec : p.tables.exec = Jvm.exec) (hb : c.code = cc) (hK : va_K D cl tys s) (hP : va_P D cl (mm_wl N tc ad lay I L) H) {t ti n : Nat} {z : Unit ⊕ Unit ⊕ (Nat → Option Nat)} (ht : t < N) (hl : lay t = .inl (ti, n, z)) {ty : FieldType} (hty : tys[ti]? = some (tc ti, ty)) {v : Int32} (hv : Int32.ofNat n = v) (hdg : decode cc pc = .ok (.arraylength, 1))
    (kk : W p l e R s m args below meth c H locs cells slots Q (F0 m (pc + 1) ls (.int v :: rest))) : W p l e R s m args below meth c H locs cells slots Q (F0 m pc ls (.ref (ad t) :: rest)) := by
  rcases z with z | z | z
  · exact va_alen hexec hb hK hP t ti (x := (n, .inl (I t))) (by rw [mm_wl_at ht, hl]; rfl) hty hv hdg kk
  · exact va_alen hexec hb hK hP t ti (x := (n, .inr (.inl (L t)))) (by rw [mm_wl_at ht, hl]; rfl) hty hv hdg kk
  · exact va_alen hexec hb hK hP t ti (x := (n, .inr (.inr (.inr (.inr (fun j => (z j).map ad)))))) (by rw [mm_wl_at ht, hl]; rfl) hty hv hdg kk
end MMW
/-- a switch: out of its places lo .. hi - 1, or one of them -/
theorem mm_sw (x : Int32) (lo hi : Nat) : (x.toInt < (lo : Int) ∨ (hi : Int) ≤ x.toInt) ∨ ∃ k : Nat, (lo ≤ k ∧ k < hi) ∧ x = nI k := by
  by_cases h0 : x.toInt < (lo : Int)
  · exact Or.inl (Or.inl h0)
  · by_cases h1 : (hi : Int) ≤ x.toInt
    · exact Or.inl (Or.inr h1)
    · refine Or.inr ⟨x.toInt.toNat, by omega, ?_⟩
      apply Int32.toInt_inj.mp
      have hb : x.toInt < 2 ^ 31 := Int32.toInt_lt x
      rw [nI_toInt (by omega)]
      omega
theorem mm_RA_inj {U : State} {cA cB : ClassId} {ty : FieldType} (h1 : va_RA U cA ty) (h2 : va_RA U cB ty) : cA = cB := by
  cases ty with
  | object C =>
    obtain ⟨_, _, _, _, _, a⟩ := h1
    obtain ⟨_, _, _, _, _, b⟩ := h2
    exact Option.some.inj (a.symm.trans b)
  | _ => exact Option.some.inj (Eq.trans (Eq.symm h1) h2)
theorem mm_arr0i (cA : ClassId) (n : Nat) : vp_cell cA (n, .inl (fun _ => 0)) = arrV cA n (fun _ => defaultValue .int) := rfl
theorem mm_arr0z (cA : ClassId) (n : Nat) : vp_cell cA (n, .inl (fun _ => 0)) = arrV cA n (fun _ => defaultValue .boolean) := rfl
theorem mm_arr0l (cA : ClassId) (n : Nat) : vp_cell cA (n, .inr (.inl (fun _ => 0))) = arrV cA n (fun _ => defaultValue .long) := rfl
section MMN
variable {p : Program} {l : Launch} {e : Env} {R : Room} {s : State} {m : MethodId} {args : Array Value} {below : List Frame} {meth : Method} {c : Code} {H H0 : Heap} {locs : List Loc} {cells slots : Nat} {Q : State → Prop}
variable {cc : ByteArray} {pc : Nat} {ls : Array Slot} {rest : List Value} {D : va_G} {cl : List vw_C} {tys : List (ClassId × FieldType)} {A : Nat → Prop} {tc : Nat → ClassId} {ws : va_W}
theorem mm_newa (hexec : p.tables.exec = Jvm.exec) (hb : c.code = cc) {atype : ArrayType} (harr : (Cond.arrayClass (newarray.typeOf atype)).before args s = true) {ty : FieldType} (hty : newarray.typeOf atype = ty) (hK : va_K D cl tys s) (hP : va_P D cl ws H) (hD : va_D A ws) (hS : va_S A H0 H locs) (hA : ∀ q, H0.size ≤ q → A q) {ti : Nat} (ht : tys[ti]? = some (tc ti, ty))
    {n : Int32} {N' : Nat} {a0 : vp_A} (ha : ∀ cA : ClassId, vp_cell cA a0 = arrV cA N' (fun _ => defaultValue ty)) (hn : ¬ n < 0) (hN : n.toNatClampNeg = N') (hbytes : N' * componentBytes ty ≤ 536870912) (hcells : cells + 1 ≤ R.cells) (hslots : slots + N' ≤ R.slots) (hdg : decode cc pc = .ok (.newarray atype, 2))
    (kk : ∀ (q : Nat) (H1 : Heap), va_P D cl (ws ++ [(q, .inl (tc ti, a0))]) H1 → va_D A (ws ++ [(q, .inl (tc ti, a0))]) → va_S A H0 H1 locs →
      W p l e R s m args below meth c H1 locs (cells + 1) (slots + N') Q (F0 m (pc + 2) ls (.ref q :: rest))) : W p l e R s m args below meth c H locs cells slots Q (F0 m pc ls (.int n :: rest)) := by
  refine va_newa hexec hb harr hty hK hP hD hS hA ha hn hN hbytes hcells hslots hdg (fun q cA H1 hK1 hP1 hD1 hS1 => ?_)
  have e1 : cA = tc ti := mm_RA_inj (hK1.2 tys.length (cA, ty) (by simp)).2 (hK.2 ti _ ht).2
  subst e1
  exact kk q H1 hP1 hD1 hS1
theorem mm_newq (hexec : p.tables.exec = Jvm.exec) (hb : c.code = cc) {own C : String} {index : Nat} (hown : s.vm.findClass own = some m.cls) (hclink : (Cond.classLink own index C).before args s = true) (hover : va_AO C s) (hK : va_K D cl tys s) (hP : va_P D cl ws H) (hD : va_D A ws) (hS : va_S A H0 H locs) (hA : ∀ q, H0.size ≤ q → A q) {ti : Nat} (ht : tys[ti]? = some (tc ti, .object C))
    {n : Int32} {N' : Nat} (hn : ¬ n < 0) (hN : n.toNatClampNeg = N') (hbytes : N' * 4 ≤ 536870912) (hcells : cells + 1 ≤ R.cells) (hslots : slots + N' ≤ R.slots) (hdg : decode cc pc = .ok (.anewarray index, 3))
    (kk : ∀ (q : Nat) (H1 : Heap), va_P D cl (ws ++ [(q, .inl (tc ti, N', .inr (.inr (.inr (.inr (fun _ => none))))))]) H1 → va_D A (ws ++ [(q, .inl (tc ti, N', .inr (.inr (.inr (.inr (fun _ => none))))))]) → va_S A H0 H1 locs →
      W p l e R s m args below meth c H1 locs (cells + 1) (slots + N') Q (F0 m (pc + 3) ls (.ref q :: rest))) : W p l e R s m args below meth c H locs cells slots Q (F0 m pc ls (.int n :: rest)) := by
  refine va_newq hexec hb hown hclink hover hK hP hD hS hA hn hN hbytes hcells hslots hdg (fun q cA H1 hK1 hP1 hD1 hS1 => ?_)
  have e1 : cA = tc ti := mm_RA_inj (hK1.2 tys.length (cA, .object C) (by simp)).2 (hK.2 ti _ ht).2
  subst e1
  exact kk q H1 hP1 hD1 hS1
end MMN
end
section
abbrev mtys (tc : Nat → ClassId) : List (ClassId × FieldType) := [(tc 0, .int), (tc 1, .long), (tc 2, .boolean), (tc 3, .object "RulePayroll$Person"), (tc 4, .object "RulePayroll$Table")]
def mm_layL : List mm_Sh := [.inr (5, [.inr (.inr (some 1)), .inr (.inr (some 13)), .inr (.inr (some 14))]), .inr (2, [.inr (.inr (some 2)), .inr (.inr (some 10)), .inr (.inr (some 11)), .inr (.inr (some 12))]), .inr (0, [.inr (.inr (some 3)), .inr (.inr (some 4)), .inr (.inr (some 5)), .inr (.inr (some 6)), .inr (.inr (some 7)), .inr (.inr (some 8)), .inr (.inr (some 9)), .inl ()]), .inl (0, 70, .inl ()), .inl (0, 70, .inl ()), .inl (0, 70, .inl ()), .inl (0, 70, .inl ()), .inl (0, 70, .inl ()), .inl (0, 70, .inl ()), .inl (0, 70, .inl ()), .inl (0, 8, .inl ()), .inl (4, 2, .inr (.inr (fun j => some (18 + j)))), .inl (1, 70, .inr (.inl ())), .inl (3, 6, .inr (.inr (fun j => some (24 + j)))), .inr (3, [.inr (.inr (some 15)), .inr (.inr (some 16)), .inr (.inr (some 17)), .inl ()]), .inl (1, 288, .inr (.inl ())), .inl (0, 96, .inl ()), .inl (2, 16, .inl ()), .inr (4, [.inr (.inr (some 20)), .inr (.inr (some 22)), .inl ()]), .inr (4, [.inr (.inr (some 21)), .inr (.inr (some 23)), .inl ()]), .inl (0, 5, .inl ()), .inl (0, 5, .inl ()), .inl (0, 5, .inl ()), .inl (0, 5, .inl ()), .inr (1, [.inr (.inr (some 30)), .inr (.inl ()), .inr (.inl ()), .inl ()]), .inr (1, [.inr (.inr (some 31)), .inr (.inl ()), .inr (.inl ()), .inl ()]), .inr (1, [.inr (.inr (some 32)), .inr (.inl ()), .inr (.inl ()), .inl ()]), .inr (1, [.inr (.inr (some 33)), .inr (.inl ()), .inr (.inl ()), .inl ()]), .inr (1, [.inr (.inr (some 34)), .inr (.inl ()), .inr (.inl ()), .inl ()]), .inr (1, [.inr (.inr (some 35)), .inr (.inl ()), .inr (.inl ()), .inl ()]), .inl (0, 8, .inl ()), .inl (0, 8, .inl ()), .inl (0, 8, .inl ()), .inl (0, 8, .inl ()), .inl (0, 8, .inl ()), .inl (0, 8, .inl ()), .inr (6, [.inl (), .inl (), .inr (.inr (some 37)), .inr (.inr (some 38)), .inr (.inr (some 39)), .inr (.inr (some 40)), .inr (.inr (some 41)), .inr (.inr (some 42)), .inr (.inr (some 43)), .inr (.inr (some 44)), .inr (.inr (some 45)), .inr (.inr (some 46)), .inr (.inr (some 47)), .inr (.inr (some 48)), .inr (.inr (some 49)), .inr (.inr (some 50)), .inr (.inr (some 51)), .inr (.inr (some 52)), .inr (.inr (some 53)), .inr (.inr (some 54)), .inr (.inr (some 55))]), .inl (0, 70, .inl ()), .inl (0, 70, .inl ()), .inl (0, 70, .inl ()), .inl (0, 70, .inl ()), .inl (0, 70, .inl ()), .inl (0, 70, .inl ()), .inl (0, 8, .inl ()), .inl (0, 2, .inl ()), .inl (0, 10, .inl ()), .inl (0, 10, .inl ()), .inl (0, 48, .inl ()), .inl (2, 6, .inl ()), .inl (2, 16, .inl ()), .inl (2, 96, .inl ()), .inl (0, 96, .inl ()), .inl (1, 288, .inr (.inl ())), .inl (1, 12, .inr (.inl ())), .inl (1, 70, .inr (.inl ())), .inl (1, 8, .inr (.inl ()))]
def mm_lay (t : Nat) : mm_Sh := mm_layL.getD t (.inr (0, []))
abbrev mm_N : Nat := 56
theorem ly_N_TB {p : Nat} (hp : p < 2) : 18 + p < mm_N := by show 18 + p < 56; omega
theorem ly_TB {p : Nat} (hp : p < 2) : mm_lay (18 + p) = .inr (4, [.inr (.inr (some (20 + p))), .inr (.inr (some (22 + p))), .inl ()]) := by
  obtain rfl | rfl : p = 0 ∨ p = 1 := by omega
  · rfl
  · rfl
theorem ly_N_LIM {p : Nat} (hp : p < 2) : 20 + p < mm_N := by show 20 + p < 56; omega
theorem ly_LIM {p : Nat} (hp : p < 2) : mm_lay (20 + p) = .inl (0, 5, .inl ()) := by
  obtain rfl | rfl : p = 0 ∨ p = 1 := by omega
  · rfl
  · rfl
theorem ly_N_RAT {p : Nat} (hp : p < 2) : 22 + p < mm_N := by show 22 + p < 56; omega
theorem ly_RAT {p : Nat} (hp : p < 2) : mm_lay (22 + p) = .inl (0, 5, .inl ()) := by
  obtain rfl | rfl : p = 0 ∨ p = 1 := by omega
  · rfl
  · rfl
theorem ly_N_PS {p : Nat} (hp : p < 6) : 24 + p < mm_N := by show 24 + p < 56; omega
theorem ly_PS {p : Nat} (hp : p < 6) : mm_lay (24 + p) = .inr (1, [.inr (.inr (some (30 + p))), .inr (.inl ()), .inr (.inl ()), .inl ()]) := by
  obtain rfl | rfl | rfl | rfl | rfl | rfl : p = 0 ∨ p = 1 ∨ p = 2 ∨ p = 3 ∨ p = 4 ∨ p = 5 := by omega
  · rfl
  · rfl
  · rfl
  · rfl
  · rfl
  · rfl
theorem ly_N_INP {p : Nat} (hp : p < 6) : 30 + p < mm_N := by show 30 + p < 56; omega
theorem ly_INP {p : Nat} (hp : p < 6) : mm_lay (30 + p) = .inl (0, 8, .inl ()) := by
  obtain rfl | rfl | rfl | rfl | rfl | rfl : p = 0 ∨ p = 1 ∨ p = 2 ∨ p = 3 ∨ p = 4 ∨ p = 5 := by omega
  · rfl
  · rfl
  · rfl
  · rfl
  · rfl
  · rfl
def zb (v : Int32) : Prop := v = 0 ∨ v = 1
theorem zb_n {v : Int32} (h : zb v) : narrow .boolean (.int v) = .int v := by rcases h with rfl | rfl <;> decide
theorem zb_f {v : Int32} (h : zb v) : fits .boolean (.int v) = true := by rcases h with rfl | rfl <;> decide
theorem mm_lt {i : Int32} {n : Nat} (h : vp_in i n) : i.toNatClampNeg < n := Nat.not_le.mp fun q => h (Or.inr q)
abbrev mm_G : Type := va_G × (Nat → ClassId) × (Nat → Nat) × (Nat → Prop) × (Nat → Nat)
abbrev mm_PW (G : mm_G) (I : mm_I) (L : mm_L) (H : Heap) : Prop := va_P G.1 vwCl (mm_wl mm_N G.2.1 G.2.2.1 mm_lay I L) H
abbrev mm_DW (G : mm_G) (I : mm_I) (L : mm_L) : Prop := va_D G.2.2.2.1 (mm_wl mm_N G.2.1 G.2.2.1 mm_lay I L)
def mm_nw (U : State) : Prop := va_Nw (.methodLinkNest "RulePayroll$Rules" 11 ⟨"RulePayroll$Nodes", "<init>", "()V"⟩ "RulePayroll") U ∧ va_Nw (.methodLinkNest "RulePayroll$Rules" 38 ⟨"RulePayroll$Table", "<init>", "()V"⟩ "RulePayroll") U ∧ va_Nw (.methodLinkNest "RulePayroll" 22 ⟨"RulePayroll$Person", "<init>", "()V"⟩ "RulePayroll") U ∧ va_Nw (.methodLinkNest "RulePayroll" 25 ⟨"RulePayroll$Runs", "<init>", "()V"⟩ "RulePayroll") U ∧ va_Nw (.methodLinkNest "RulePayroll$Nodes" 37 ⟨"RulePayroll", "within", "(II)Z"⟩ "RulePayroll") U ∧ va_Nw (.fieldLinkNest "RulePayroll$Nodes" 65 "RulePayroll" "NODE_OPERANDS" "[I" "RulePayroll") U ∧ va_Nw (.methodLinkNest "RulePayroll$Runs" 27 ⟨"RulePayroll", "within", "(II)Z"⟩ "RulePayroll") U ∧ va_AO "RulePayroll$Table" U ∧ va_AO "RulePayroll$Person" U
theorem nw_0 {U : State} (h : mm_nw U) : va_Nw (.methodLinkNest "RulePayroll$Rules" 11 ⟨"RulePayroll$Nodes", "<init>", "()V"⟩ "RulePayroll") U := h.1
theorem nw_1 {U : State} (h : mm_nw U) : va_Nw (.methodLinkNest "RulePayroll$Rules" 38 ⟨"RulePayroll$Table", "<init>", "()V"⟩ "RulePayroll") U := h.2.1
theorem nw_2 {U : State} (h : mm_nw U) : va_Nw (.methodLinkNest "RulePayroll" 22 ⟨"RulePayroll$Person", "<init>", "()V"⟩ "RulePayroll") U := h.2.2.1
theorem nw_3 {U : State} (h : mm_nw U) : va_Nw (.methodLinkNest "RulePayroll" 25 ⟨"RulePayroll$Runs", "<init>", "()V"⟩ "RulePayroll") U := h.2.2.2.1
theorem nw_4 {U : State} (h : mm_nw U) : va_Nw (.methodLinkNest "RulePayroll$Nodes" 37 ⟨"RulePayroll", "within", "(II)Z"⟩ "RulePayroll") U := h.2.2.2.2.1
theorem nw_5 {U : State} (h : mm_nw U) : va_Nw (.fieldLinkNest "RulePayroll$Nodes" 65 "RulePayroll" "NODE_OPERANDS" "[I" "RulePayroll") U := h.2.2.2.2.2.1
theorem nw_6 {U : State} (h : mm_nw U) : va_Nw (.methodLinkNest "RulePayroll$Runs" 27 ⟨"RulePayroll", "within", "(II)Z"⟩ "RulePayroll") U := h.2.2.2.2.2.2.1
theorem nw_7 {U : State} (h : mm_nw U) : va_AO "RulePayroll$Table" U := h.2.2.2.2.2.2.2.1
theorem nw_8 {U : State} (h : mm_nw U) : va_AO "RulePayroll$Person" U := h.2.2.2.2.2.2.2.2
theorem mm_nw_warm {s U : State} (hW : s.WarmedH U.vm) (h : mm_nw s) : mm_nw U := ⟨va_Nw.warmM hW (nw_0 h), va_Nw.warmM hW (nw_1 h), va_Nw.warmM hW (nw_2 h), va_Nw.warmM hW (nw_3 h), va_Nw.warmM hW (nw_4 h), va_Nw.warmF hW (nw_5 h), va_Nw.warmM hW (nw_6 h), va_AO.moved hW.alike (nw_7 h), va_AO.moved hW.alike (nw_8 h)⟩
theorem mm_nw_same {u U : State} (hvm : u.vm = U.vm) (h : mm_nw u) : mm_nw U := ⟨va_Nw.same rfl hvm (nw_0 h), va_Nw.same rfl hvm (nw_1 h), va_Nw.same rfl hvm (nw_2 h), va_Nw.same rfl hvm (nw_3 h), va_Nw.same rfl hvm (nw_4 h), va_Nw.same rfl hvm (nw_5 h), va_Nw.same rfl hvm (nw_6 h), va_AO.moved (hvm ▸ Vm.Alike.refl u.vm) (nw_7 h), va_AO.moved (hvm ▸ Vm.Alike.refl u.vm) (nw_8 h)⟩
def tb_no (j : Nat) : Int32 := ([0, 0, 0, 0, 3, 3, 3, 3, 3, 3, 3, 7, 1, 3, 3, 7, 0, 7, 3, 2] : List Int32).getD j 0
def mm_cs (G : mm_G) (U : State) (H : Heap) : Prop := va_Z "RulePayroll" "NODE_OPERANDS" "[I" (.ref (G.2.2.2.2 0)) G.2.2.2.1 U H ∧ va_T .int (G.2.2.2.2 0) 20 (fun j => .int (tb_no j)) G.2.2.2.1 U H ∧ mm_nw U
def mm_B (G : mm_G) (I : mm_I) (L : mm_L) (U : State) : Prop := mm_PW G I L U.heap ∧ va_K G.1 vwCl (mtys G.2.1) U ∧ mm_DW G I L ∧ mm_cs G U U.heap
abbrev mm_pre (G : mm_G) (av : List Value) (I : mm_I) (L : mm_L) : Array Value → State → Prop := va_Pc av (mm_B G I L)
abbrev mm_qi (G : mm_G) (Q : Int32 → mm_I → mm_L → Prop) : Array Value → State → Outcome → State → Prop := va_Qi (S := mm_I × mm_L) (fun r u => Q r u.1 u.2) (fun u t => mm_PW G u.1 u.2 t.heap) G.2.2.2.1
abbrev mm_ql (G : mm_G) (Q : Int64 → mm_I → mm_L → Prop) : Array Value → State → Outcome → State → Prop := va_Ql (S := mm_I × mm_L) (fun r u => Q r u.1 u.2) (fun u t => mm_PW G u.1 u.2 t.heap) G.2.2.2.1
abbrev mm_qv (G : mm_G) (Q : mm_I → mm_L → Prop) : Array Value → State → Outcome → State → Prop := va_Qv (S := mm_I × mm_L) (fun u => Q u.1 u.2) (fun u t => mm_PW G u.1 u.2 t.heap) G.2.2.2.1
def mm_cx (cc : ByteArray) (ret : Option FieldType) (nL : Nat) (own : String) (G : mm_G) (p : Program) (s : State) (m : MethodId) (args : Array Value) (meth : Method) (c : Code) : Prop := p.tables.exec = Jvm.exec ∧ c.code = cc ∧ meth.sig.returnType = ret ∧ meth.locks = false ∧ c.maxLocals = nL ∧ s.vm.findClass own = some m.cls ∧ (∀ w ∈ mm_GW, w.before args s = true) ∧ va_K G.1 vwCl (mtys G.2.1) s ∧ mm_cs G s s.heap
theorem mm_mv {G : mm_G} {I : mm_I} {L : mm_L} {t : State} {H : Heap} (e : t.heap = H) (h : mm_PW G I L H) : mm_PW G I L t.heap := by rw [e]; exact h
theorem mm_blind {G : mm_G} {av : List Value} {I : mm_I} {L : mm_L} : FrameBlind (mm_pre G av I L) := by
  intro a U g mk q
  obtain ⟨q0, qP, qK, qD, qZ, qT, qN⟩ := q
  exact ⟨q0, qP, va_K.moved (u := U) (U := U.calling g mk a) (Vm.Alike.refl U.vm) qK, qD, va_Z.moved (u := U) (U := U.calling g mk a) (Vm.Alike.refl U.vm) qZ, va_T.moved (u := U) (U := U.calling g mk a) (Vm.Alike.refl U.vm) qT, mm_nw_same rfl qN⟩
theorem mm_call {G : mm_G} {av : List Value} {I : mm_I} {L : mm_L} {s U : State} {H : Heap} {locs : List Loc} (hP : mm_PW G I L H) (hK : va_K G.1 vwCl (mtys G.2.1) s) (hD : mm_DW G I L) (hC : mm_cs G s s.heap) (hU : U.heap = H) (hS : va_S G.2.2.2.1 s.heap H locs) (hW : s.WarmedH U.vm) : mm_pre G av I L av.toArray U := by
  refine ⟨rfl, by rw [hU]; exact hP, va_K.moved hW.alike hK, hD, ?_, ?_, mm_nw_warm hW hC.2.2⟩
  · rw [hU]
    exact (va_Z.moved hW.alike hC.1).kept (fun a h1 h2 => hS.2.1 a h1 h2)
  · rw [hU]
    exact (va_T.moved hW.alike hC.2.1).kept (fun a h1 h2 => hS.2.1 a h1 h2)
theorem mm_recv {G : mm_G} {I : mm_I} {L : mm_L} {s : State} {H : Heap} {ci t : Nat} {ds : List mm_Kd} {q : vw_C} (hK : va_K G.1 vwCl (mtys G.2.1) s) (hP : mm_PW G I L H) (ht : t < mm_N) (hl : mm_lay t = .inr (ci, ds)) (hc : vwCl[ci]? = some q) : ∃ cell : Cell, H[G.2.2.1 t]? = some cell ∧ cell.vm.isStatics = false ∧ s.vm.findClass q.1 = some cell.cls :=
  va_recv hK hP hc (q0 := t) (fs := mm_fl G.2.2.1 (I t) (L t) 0 ds) (by rw [mm_wl_at ht, hl]; rfl)
end
section
theorem d_X6_init_0 : decode c_X6_init 0 = .ok (.aload_n 0, 1) := by decide +kernel
theorem d_X6_init_1 : decode c_X6_init 1 = .ok (.invokespecial 3, 3) := by decide +kernel
theorem d_X6_init_4 : decode c_X6_init 4 = .ok (.aload_n 0, 1) := by decide +kernel
theorem d_X6_init_5 : decode c_X6_init 5 = .ok (.new 9, 3) := by decide +kernel
theorem d_X6_init_8 : decode c_X6_init 8 = .ok (.dup, 1) := by decide +kernel
theorem d_X6_init_9 : decode c_X6_init 9 = .ok (.invokespecial 11, 3) := by decide +kernel
theorem d_X6_init_12 : decode c_X6_init 12 = .ok (.putfield 12, 3) := by decide +kernel
theorem d_X6_init_15 : decode c_X6_init 15 = .ok (.aload_n 0, 1) := by decide +kernel
theorem d_X6_init_16 : decode c_X6_init 16 = .ok (.bipush 6, 2) := by decide +kernel
theorem d_X6_init_18 : decode c_X6_init 18 = .ok (.anewarray 16, 3) := by decide +kernel
theorem d_X6_init_21 : decode c_X6_init 21 = .ok (.putfield 18, 3) := by decide +kernel
theorem d_X6_init_24 : decode c_X6_init 24 = .ok (.iconst 0, 1) := by decide +kernel
theorem d_X6_init_25 : decode c_X6_init 25 = .ok (.istore_n 1, 1) := by decide +kernel
theorem d_X6_init_26 : decode c_X6_init 26 = .ok (.iload_n 1, 1) := by decide +kernel
theorem d_X6_init_27 : decode c_X6_init 27 = .ok (.bipush 6, 2) := by decide +kernel
theorem d_X6_init_29 : decode c_X6_init 29 = .ok (.if_icmp .ge 22, 3) := by decide +kernel
theorem d_X6_init_32 : decode c_X6_init 32 = .ok (.aload_n 0, 1) := by decide +kernel
theorem d_X6_init_33 : decode c_X6_init 33 = .ok (.getfield 18, 3) := by decide +kernel
theorem d_X6_init_36 : decode c_X6_init 36 = .ok (.iload_n 1, 1) := by decide +kernel
theorem d_X6_init_37 : decode c_X6_init 37 = .ok (.new 16, 3) := by decide +kernel
theorem d_X6_init_40 : decode c_X6_init 40 = .ok (.dup, 1) := by decide +kernel
theorem d_X6_init_41 : decode c_X6_init 41 = .ok (.invokespecial 22, 3) := by decide +kernel
theorem d_X6_init_44 : decode c_X6_init 44 = .ok (.aastore, 1) := by decide +kernel
theorem d_X6_init_45 : decode c_X6_init 45 = .ok (.iinc 1 1, 3) := by decide +kernel
theorem d_X6_init_48 : decode c_X6_init 48 = .ok (.goto (-22), 3) := by decide +kernel
theorem d_X6_init_51 : decode c_X6_init 51 = .ok (.aload_n 0, 1) := by decide +kernel
theorem d_X6_init_52 : decode c_X6_init 52 = .ok (.new 23, 3) := by decide +kernel
theorem d_X6_init_55 : decode c_X6_init 55 = .ok (.dup, 1) := by decide +kernel
theorem d_X6_init_56 : decode c_X6_init 56 = .ok (.invokespecial 25, 3) := by decide +kernel
theorem d_X6_init_59 : decode c_X6_init 59 = .ok (.putfield 26, 3) := by decide +kernel
theorem d_X6_init_62 : decode c_X6_init 62 = .ok (.return_, 1) := by decide +kernel
theorem d_X6_node_0 : decode c_X6_node 0 = .ok (.aload_n 0, 1) := by decide +kernel
theorem d_X6_node_1 : decode c_X6_node 1 = .ok (.getfield 12, 3) := by decide +kernel
theorem d_X6_node_4 : decode c_X6_node 4 = .ok (.getfield 30, 3) := by decide +kernel
theorem d_X6_node_7 : decode c_X6_node 7 = .ok (.iload_n 1, 1) := by decide +kernel
theorem d_X6_node_8 : decode c_X6_node 8 = .ok (.iload_n 2, 1) := by decide +kernel
theorem d_X6_node_9 : decode c_X6_node 9 = .ok (.iload_n 3, 1) := by decide +kernel
theorem d_X6_node_10 : decode c_X6_node 10 = .ok (.iload 4, 2) := by decide +kernel
theorem d_X6_node_12 : decode c_X6_node 12 = .ok (.invokevirtual 34, 3) := by decide +kernel
theorem d_X6_node_15 : decode c_X6_node 15 = .ok (.ireturn, 1) := by decide +kernel
theorem d_X6_define_0 : decode c_X6_define 0 = .ok (.iload_n 1, 1) := by decide +kernel
theorem d_X6_define_1 : decode c_X6_define 1 = .ok (.bipush 8, 2) := by decide +kernel
theorem d_X6_define_3 : decode c_X6_define 3 = .ok (.invokestatic 40, 3) := by decide +kernel
theorem d_X6_define_6 : decode c_X6_define 6 = .ok (.ifCond .eq 33, 3) := by decide +kernel
theorem d_X6_define_9 : decode c_X6_define 9 = .ok (.aload_n 0, 1) := by decide +kernel
theorem d_X6_define_10 : decode c_X6_define 10 = .ok (.getfield 12, 3) := by decide +kernel
theorem d_X6_define_13 : decode c_X6_define 13 = .ok (.getfield 30, 3) := by decide +kernel
theorem d_X6_define_16 : decode c_X6_define 16 = .ok (.iload_n 2, 1) := by decide +kernel
theorem d_X6_define_17 : decode c_X6_define 17 = .ok (.invokevirtual 44, 3) := by decide +kernel
theorem d_X6_define_20 : decode c_X6_define 20 = .ok (.ifCond .eq 19, 3) := by decide +kernel
theorem d_X6_define_23 : decode c_X6_define 23 = .ok (.aload_n 0, 1) := by decide +kernel
theorem d_X6_define_24 : decode c_X6_define 24 = .ok (.getfield 12, 3) := by decide +kernel
theorem d_X6_define_27 : decode c_X6_define 27 = .ok (.getfield 30, 3) := by decide +kernel
theorem d_X6_define_30 : decode c_X6_define 30 = .ok (.getfield 48, 3) := by decide +kernel
theorem d_X6_define_33 : decode c_X6_define 33 = .ok (.iload_n 2, 1) := by decide +kernel
theorem d_X6_define_34 : decode c_X6_define 34 = .ok (.iaload, 1) := by decide +kernel
theorem d_X6_define_35 : decode c_X6_define 35 = .ok (.iload_n 1, 1) := by decide +kernel
theorem d_X6_define_36 : decode c_X6_define 36 = .ok (.if_icmp .le 5, 3) := by decide +kernel
theorem d_X6_define_39 : decode c_X6_define 39 = .ok (.iconst (-1), 1) := by decide +kernel
theorem d_X6_define_40 : decode c_X6_define 40 = .ok (.ireturn, 1) := by decide +kernel
theorem d_X6_define_41 : decode c_X6_define 41 = .ok (.aload_n 0, 1) := by decide +kernel
theorem d_X6_define_42 : decode c_X6_define 42 = .ok (.getfield 12, 3) := by decide +kernel
theorem d_X6_define_45 : decode c_X6_define 45 = .ok (.getfield 52, 3) := by decide +kernel
theorem d_X6_define_48 : decode c_X6_define 48 = .ok (.iload_n 1, 1) := by decide +kernel
theorem d_X6_define_49 : decode c_X6_define 49 = .ok (.iload_n 2, 1) := by decide +kernel
theorem d_X6_define_50 : decode c_X6_define 50 = .ok (.iastore, 1) := by decide +kernel
theorem d_X6_define_51 : decode c_X6_define 51 = .ok (.iconst 0, 1) := by decide +kernel
theorem d_X6_define_52 : decode c_X6_define 52 = .ok (.ireturn, 1) := by decide +kernel
theorem d_X6_undefine_0 : decode c_X6_undefine 0 = .ok (.iload_n 1, 1) := by decide +kernel
theorem d_X6_undefine_1 : decode c_X6_undefine 1 = .ok (.bipush 8, 2) := by decide +kernel
theorem d_X6_undefine_3 : decode c_X6_undefine 3 = .ok (.invokestatic 40, 3) := by decide +kernel
theorem d_X6_undefine_6 : decode c_X6_undefine 6 = .ok (.ifCond .ne 5, 3) := by decide +kernel
theorem d_X6_undefine_9 : decode c_X6_undefine 9 = .ok (.iconst (-1), 1) := by decide +kernel
theorem d_X6_undefine_10 : decode c_X6_undefine 10 = .ok (.ireturn, 1) := by decide +kernel
theorem d_X6_undefine_11 : decode c_X6_undefine 11 = .ok (.aload_n 0, 1) := by decide +kernel
theorem d_X6_undefine_12 : decode c_X6_undefine 12 = .ok (.getfield 12, 3) := by decide +kernel
theorem d_X6_undefine_15 : decode c_X6_undefine 15 = .ok (.getfield 52, 3) := by decide +kernel
theorem d_X6_undefine_18 : decode c_X6_undefine 18 = .ok (.iload_n 1, 1) := by decide +kernel
theorem d_X6_undefine_19 : decode c_X6_undefine 19 = .ok (.iconst (-1), 1) := by decide +kernel
theorem d_X6_undefine_20 : decode c_X6_undefine 20 = .ok (.iastore, 1) := by decide +kernel
theorem d_X6_undefine_21 : decode c_X6_undefine 21 = .ok (.iconst 0, 1) := by decide +kernel
theorem d_X6_undefine_22 : decode c_X6_undefine 22 = .ok (.ireturn, 1) := by decide +kernel
theorem d_X6_step_0 : decode c_X6_step 0 = .ok (.iload_n 1, 1) := by decide +kernel
theorem d_X6_step_1 : decode c_X6_step 1 = .ok (.iconst 2, 1) := by decide +kernel
theorem d_X6_step_2 : decode c_X6_step 2 = .ok (.invokestatic 40, 3) := by decide +kernel
theorem d_X6_step_5 : decode c_X6_step 5 = .ok (.ifCond .eq 20, 3) := by decide +kernel
theorem d_X6_step_8 : decode c_X6_step 8 = .ok (.aload_n 0, 1) := by decide +kernel
theorem d_X6_step_9 : decode c_X6_step 9 = .ok (.getfield 12, 3) := by decide +kernel
theorem d_X6_step_12 : decode c_X6_step 12 = .ok (.getfield 55, 3) := by decide +kernel
theorem d_X6_step_15 : decode c_X6_step 15 = .ok (.iload_n 1, 1) := by decide +kernel
theorem d_X6_step_16 : decode c_X6_step 16 = .ok (.aaload, 1) := by decide +kernel
theorem d_X6_step_17 : decode c_X6_step 17 = .ok (.iload_n 2, 1) := by decide +kernel
theorem d_X6_step_18 : decode c_X6_step 18 = .ok (.iload_n 3, 1) := by decide +kernel
theorem d_X6_step_19 : decode c_X6_step 19 = .ok (.invokevirtual 59, 3) := by decide +kernel
theorem d_X6_step_22 : decode c_X6_step 22 = .ok (.goto 4, 3) := by decide +kernel
theorem d_X6_step_25 : decode c_X6_step 25 = .ok (.iconst (-1), 1) := by decide +kernel
theorem d_X6_step_26 : decode c_X6_step 26 = .ok (.ireturn, 1) := by decide +kernel
theorem d_X6_clear_0 : decode c_X6_clear 0 = .ok (.iload_n 1, 1) := by decide +kernel
theorem d_X6_clear_1 : decode c_X6_clear 1 = .ok (.iconst 2, 1) := by decide +kernel
theorem d_X6_clear_2 : decode c_X6_clear 2 = .ok (.invokestatic 40, 3) := by decide +kernel
theorem d_X6_clear_5 : decode c_X6_clear 5 = .ok (.ifCond .eq 18, 3) := by decide +kernel
theorem d_X6_clear_8 : decode c_X6_clear 8 = .ok (.aload_n 0, 1) := by decide +kernel
theorem d_X6_clear_9 : decode c_X6_clear 9 = .ok (.getfield 12, 3) := by decide +kernel
theorem d_X6_clear_12 : decode c_X6_clear 12 = .ok (.getfield 55, 3) := by decide +kernel
theorem d_X6_clear_15 : decode c_X6_clear 15 = .ok (.iload_n 1, 1) := by decide +kernel
theorem d_X6_clear_16 : decode c_X6_clear 16 = .ok (.aaload, 1) := by decide +kernel
theorem d_X6_clear_17 : decode c_X6_clear 17 = .ok (.invokevirtual 65, 3) := by decide +kernel
theorem d_X6_clear_20 : decode c_X6_clear 20 = .ok (.goto 4, 3) := by decide +kernel
theorem d_X6_clear_23 : decode c_X6_clear 23 = .ok (.iconst (-1), 1) := by decide +kernel
theorem d_X6_clear_24 : decode c_X6_clear 24 = .ok (.ireturn, 1) := by decide +kernel
theorem d_X6_input_0 : decode c_X6_input 0 = .ok (.iload_n 1, 1) := by decide +kernel
theorem d_X6_input_1 : decode c_X6_input 1 = .ok (.bipush 6, 2) := by decide +kernel
theorem d_X6_input_3 : decode c_X6_input 3 = .ok (.invokestatic 40, 3) := by decide +kernel
theorem d_X6_input_6 : decode c_X6_input 6 = .ok (.ifCond .eq 12, 3) := by decide +kernel
theorem d_X6_input_9 : decode c_X6_input 9 = .ok (.iload_n 2, 1) := by decide +kernel
theorem d_X6_input_10 : decode c_X6_input 10 = .ok (.bipush 8, 2) := by decide +kernel
theorem d_X6_input_12 : decode c_X6_input 12 = .ok (.invokestatic 40, 3) := by decide +kernel
theorem d_X6_input_15 : decode c_X6_input 15 = .ok (.ifCond .ne 5, 3) := by decide +kernel
theorem d_X6_input_18 : decode c_X6_input 18 = .ok (.iconst (-1), 1) := by decide +kernel
theorem d_X6_input_19 : decode c_X6_input 19 = .ok (.ireturn, 1) := by decide +kernel
theorem d_X6_input_20 : decode c_X6_input 20 = .ok (.aload_n 0, 1) := by decide +kernel
theorem d_X6_input_21 : decode c_X6_input 21 = .ok (.getfield 18, 3) := by decide +kernel
theorem d_X6_input_24 : decode c_X6_input 24 = .ok (.iload_n 1, 1) := by decide +kernel
theorem d_X6_input_25 : decode c_X6_input 25 = .ok (.aaload, 1) := by decide +kernel
theorem d_X6_input_26 : decode c_X6_input 26 = .ok (.getfield 69, 3) := by decide +kernel
theorem d_X6_input_29 : decode c_X6_input 29 = .ok (.iload_n 2, 1) := by decide +kernel
theorem d_X6_input_30 : decode c_X6_input 30 = .ok (.iload_n 3, 1) := by decide +kernel
theorem d_X6_input_31 : decode c_X6_input 31 = .ok (.iastore, 1) := by decide +kernel
theorem d_X6_input_32 : decode c_X6_input 32 = .ok (.iconst 0, 1) := by decide +kernel
theorem d_X6_input_33 : decode c_X6_input 33 = .ok (.ireturn, 1) := by decide +kernel
theorem d_X6_activate_0 : decode c_X6_activate 0 = .ok (.iload_n 1, 1) := by decide +kernel
theorem d_X6_activate_1 : decode c_X6_activate 1 = .ok (.bipush 6, 2) := by decide +kernel
theorem d_X6_activate_3 : decode c_X6_activate 3 = .ok (.invokestatic 40, 3) := by decide +kernel
theorem d_X6_activate_6 : decode c_X6_activate 6 = .ok (.ifCond .ne 5, 3) := by decide +kernel
theorem d_X6_activate_9 : decode c_X6_activate 9 = .ok (.iconst (-1), 1) := by decide +kernel
theorem d_X6_activate_10 : decode c_X6_activate 10 = .ok (.ireturn, 1) := by decide +kernel
theorem d_X6_activate_11 : decode c_X6_activate 11 = .ok (.aload_n 0, 1) := by decide +kernel
theorem d_X6_activate_12 : decode c_X6_activate 12 = .ok (.getfield 18, 3) := by decide +kernel
theorem d_X6_activate_15 : decode c_X6_activate 15 = .ok (.iload_n 1, 1) := by decide +kernel
theorem d_X6_activate_16 : decode c_X6_activate 16 = .ok (.aaload, 1) := by decide +kernel
theorem d_X6_activate_17 : decode c_X6_activate 17 = .ok (.iload_n 2, 1) := by decide +kernel
theorem d_X6_activate_18 : decode c_X6_activate 18 = .ok (.putfield 72, 3) := by decide +kernel
theorem d_X6_activate_21 : decode c_X6_activate 21 = .ok (.iconst 0, 1) := by decide +kernel
theorem d_X6_activate_22 : decode c_X6_activate 22 = .ok (.ireturn, 1) := by decide +kernel
theorem d_X6_value_0 : decode c_X6_value 0 = .ok (.iload_n 1, 1) := by decide +kernel
theorem d_X6_value_1 : decode c_X6_value 1 = .ok (.bipush 6, 2) := by decide +kernel
theorem d_X6_value_3 : decode c_X6_value 3 = .ok (.invokestatic 40, 3) := by decide +kernel
theorem d_X6_value_6 : decode c_X6_value 6 = .ok (.ifCond .eq 29, 3) := by decide +kernel
theorem d_X6_value_9 : decode c_X6_value 9 = .ok (.aload_n 0, 1) := by decide +kernel
theorem d_X6_value_10 : decode c_X6_value 10 = .ok (.getfield 12, 3) := by decide +kernel
theorem d_X6_value_13 : decode c_X6_value 13 = .ok (.getfield 30, 3) := by decide +kernel
theorem d_X6_value_16 : decode c_X6_value 16 = .ok (.iload_n 2, 1) := by decide +kernel
theorem d_X6_value_17 : decode c_X6_value 17 = .ok (.invokevirtual 44, 3) := by decide +kernel
theorem d_X6_value_20 : decode c_X6_value 20 = .ok (.ifCond .eq 15, 3) := by decide +kernel
theorem d_X6_value_23 : decode c_X6_value 23 = .ok (.aload_n 0, 1) := by decide +kernel
theorem d_X6_value_24 : decode c_X6_value 24 = .ok (.getfield 18, 3) := by decide +kernel
theorem d_X6_value_27 : decode c_X6_value 27 = .ok (.iload_n 1, 1) := by decide +kernel
theorem d_X6_value_28 : decode c_X6_value 28 = .ok (.aaload, 1) := by decide +kernel
theorem d_X6_value_29 : decode c_X6_value 29 = .ok (.invokevirtual 76, 3) := by decide +kernel
theorem d_X6_value_32 : decode c_X6_value 32 = .ok (.ifCond .ne 7, 3) := by decide +kernel
theorem d_X6_value_35 : decode c_X6_value 35 = .ok (.ldc2_w 80, 3) := by decide +kernel
theorem d_X6_value_38 : decode c_X6_value 38 = .ok (.lreturn, 1) := by decide +kernel
theorem d_X6_value_39 : decode c_X6_value 39 = .ok (.aload_n 0, 1) := by decide +kernel
theorem d_X6_value_40 : decode c_X6_value 40 = .ok (.getfield 12, 3) := by decide +kernel
theorem d_X6_value_43 : decode c_X6_value 43 = .ok (.aload_n 0, 1) := by decide +kernel
theorem d_X6_value_44 : decode c_X6_value 44 = .ok (.getfield 18, 3) := by decide +kernel
theorem d_X6_value_47 : decode c_X6_value 47 = .ok (.iload_n 1, 1) := by decide +kernel
theorem d_X6_value_48 : decode c_X6_value 48 = .ok (.aaload, 1) := by decide +kernel
theorem d_X6_value_49 : decode c_X6_value 49 = .ok (.invokevirtual 82, 3) := by decide +kernel
theorem d_X6_value_52 : decode c_X6_value 52 = .ok (.aload_n 0, 1) := by decide +kernel
theorem d_X6_value_53 : decode c_X6_value 53 = .ok (.getfield 12, 3) := by decide +kernel
theorem d_X6_value_56 : decode c_X6_value 56 = .ok (.getfield 86, 3) := by decide +kernel
theorem d_X6_value_59 : decode c_X6_value 59 = .ok (.iload_n 2, 1) := by decide +kernel
theorem d_X6_value_60 : decode c_X6_value 60 = .ok (.laload, 1) := by decide +kernel
theorem d_X6_value_61 : decode c_X6_value 61 = .ok (.lreturn, 1) := by decide +kernel
theorem d_X6_pay_0 : decode c_X6_pay 0 = .ok (.aload_n 0, 1) := by decide +kernel
theorem d_X6_pay_1 : decode c_X6_pay 1 = .ok (.getfield 26, 3) := by decide +kernel
theorem d_X6_pay_4 : decode c_X6_pay 4 = .ok (.getfield 90, 3) := by decide +kernel
theorem d_X6_pay_7 : decode c_X6_pay 7 = .ok (.bipush 16, 2) := by decide +kernel
theorem d_X6_pay_9 : decode c_X6_pay 9 = .ok (.if_icmp .ne 6, 3) := by decide +kernel
theorem d_X6_pay_12 : decode c_X6_pay 12 = .ok (.bipush (-2), 2) := by decide +kernel
theorem d_X6_pay_14 : decode c_X6_pay 14 = .ok (.ireturn, 1) := by decide +kernel
theorem d_X6_pay_15 : decode c_X6_pay 15 = .ok (.aload_n 0, 1) := by decide +kernel
theorem d_X6_pay_16 : decode c_X6_pay 16 = .ok (.getfield 26, 3) := by decide +kernel
theorem d_X6_pay_19 : decode c_X6_pay 19 = .ok (.getfield 90, 3) := by decide +kernel
theorem d_X6_pay_22 : decode c_X6_pay 22 = .ok (.istore_n 1, 1) := by decide +kernel
theorem d_X6_pay_23 : decode c_X6_pay 23 = .ok (.aload_n 0, 1) := by decide +kernel
theorem d_X6_pay_24 : decode c_X6_pay 24 = .ok (.getfield 26, 3) := by decide +kernel
theorem d_X6_pay_27 : decode c_X6_pay 27 = .ok (.dup, 1) := by decide +kernel
theorem d_X6_pay_28 : decode c_X6_pay 28 = .ok (.getfield 90, 3) := by decide +kernel
theorem d_X6_pay_31 : decode c_X6_pay 31 = .ok (.iconst 1, 1) := by decide +kernel
theorem d_X6_pay_32 : decode c_X6_pay 32 = .ok (.iadd, 1) := by decide +kernel
theorem d_X6_pay_33 : decode c_X6_pay 33 = .ok (.putfield 90, 3) := by decide +kernel
theorem d_X6_pay_36 : decode c_X6_pay 36 = .ok (.aload_n 0, 1) := by decide +kernel
theorem d_X6_pay_37 : decode c_X6_pay 37 = .ok (.iload_n 1, 1) := by decide +kernel
theorem d_X6_pay_38 : decode c_X6_pay 38 = .ok (.invokevirtual 94, 3) := by decide +kernel
theorem d_X6_pay_41 : decode c_X6_pay 41 = .ok (.iload_n 1, 1) := by decide +kernel
theorem d_X6_pay_42 : decode c_X6_pay 42 = .ok (.ireturn, 1) := by decide +kernel
theorem d_X6_back_0 : decode c_X6_back 0 = .ok (.aload_n 0, 1) := by decide +kernel
theorem d_X6_back_1 : decode c_X6_back 1 = .ok (.getfield 26, 3) := by decide +kernel
theorem d_X6_back_4 : decode c_X6_back 4 = .ok (.iload_n 1, 1) := by decide +kernel
theorem d_X6_back_5 : decode c_X6_back 5 = .ok (.invokevirtual 98, 3) := by decide +kernel
theorem d_X6_back_8 : decode c_X6_back 8 = .ok (.ifCond .ne 5, 3) := by decide +kernel
theorem d_X6_back_11 : decode c_X6_back 11 = .ok (.iconst (-1), 1) := by decide +kernel
theorem d_X6_back_12 : decode c_X6_back 12 = .ok (.ireturn, 1) := by decide +kernel
theorem d_X6_back_13 : decode c_X6_back 13 = .ok (.aload_n 0, 1) := by decide +kernel
theorem d_X6_back_14 : decode c_X6_back 14 = .ok (.iload_n 1, 1) := by decide +kernel
theorem d_X6_back_15 : decode c_X6_back 15 = .ok (.invokevirtual 101, 3) := by decide +kernel
theorem d_X6_back_18 : decode c_X6_back 18 = .ok (.aload_n 0, 1) := by decide +kernel
theorem d_X6_back_19 : decode c_X6_back 19 = .ok (.getfield 26, 3) := by decide +kernel
theorem d_X6_back_22 : decode c_X6_back 22 = .ok (.getfield 104, 3) := by decide +kernel
theorem d_X6_back_25 : decode c_X6_back 25 = .ok (.iload_n 1, 1) := by decide +kernel
theorem d_X6_back_26 : decode c_X6_back 26 = .ok (.iconst 1, 1) := by decide +kernel
theorem d_X6_back_27 : decode c_X6_back 27 = .ok (.bastore, 1) := by decide +kernel
theorem d_X6_back_28 : decode c_X6_back 28 = .ok (.iconst 0, 1) := by decide +kernel
theorem d_X6_back_29 : decode c_X6_back 29 = .ok (.ireturn, 1) := by decide +kernel
theorem d_X6_again_0 : decode c_X6_again 0 = .ok (.aload_n 0, 1) := by decide +kernel
theorem d_X6_again_1 : decode c_X6_again 1 = .ok (.getfield 26, 3) := by decide +kernel
theorem d_X6_again_4 : decode c_X6_again 4 = .ok (.iload_n 1, 1) := by decide +kernel
theorem d_X6_again_5 : decode c_X6_again 5 = .ok (.invokevirtual 98, 3) := by decide +kernel
theorem d_X6_again_8 : decode c_X6_again 8 = .ok (.ifCond .eq 16, 3) := by decide +kernel
theorem d_X6_again_11 : decode c_X6_again 11 = .ok (.iload_n 1, 1) := by decide +kernel
theorem d_X6_again_12 : decode c_X6_again 12 = .ok (.aload_n 0, 1) := by decide +kernel
theorem d_X6_again_13 : decode c_X6_again 13 = .ok (.getfield 26, 3) := by decide +kernel
theorem d_X6_again_16 : decode c_X6_again 16 = .ok (.getfield 90, 3) := by decide +kernel
theorem d_X6_again_19 : decode c_X6_again 19 = .ok (.iconst 1, 1) := by decide +kernel
theorem d_X6_again_20 : decode c_X6_again 20 = .ok (.isub, 1) := by decide +kernel
theorem d_X6_again_21 : decode c_X6_again 21 = .ok (.if_icmp .eq 5, 3) := by decide +kernel
theorem d_X6_again_24 : decode c_X6_again 24 = .ok (.iconst (-1), 1) := by decide +kernel
theorem d_X6_again_25 : decode c_X6_again 25 = .ok (.ireturn, 1) := by decide +kernel
theorem d_X6_again_26 : decode c_X6_again 26 = .ok (.aload_n 0, 1) := by decide +kernel
theorem d_X6_again_27 : decode c_X6_again 27 = .ok (.iload_n 1, 1) := by decide +kernel
theorem d_X6_again_28 : decode c_X6_again 28 = .ok (.invokevirtual 101, 3) := by decide +kernel
theorem d_X6_again_31 : decode c_X6_again 31 = .ok (.aload_n 0, 1) := by decide +kernel
theorem d_X6_again_32 : decode c_X6_again 32 = .ok (.iload_n 1, 1) := by decide +kernel
theorem d_X6_again_33 : decode c_X6_again 33 = .ok (.invokevirtual 94, 3) := by decide +kernel
theorem d_X6_again_36 : decode c_X6_again 36 = .ok (.aload_n 0, 1) := by decide +kernel
theorem d_X6_again_37 : decode c_X6_again 37 = .ok (.getfield 26, 3) := by decide +kernel
theorem d_X6_again_40 : decode c_X6_again 40 = .ok (.iload_n 1, 1) := by decide +kernel
theorem d_X6_again_41 : decode c_X6_again 41 = .ok (.invokevirtual 108, 3) := by decide +kernel
theorem d_X6_again_44 : decode c_X6_again 44 = .ok (.ireturn, 1) := by decide +kernel
theorem d_X6_slip_0 : decode c_X6_slip 0 = .ok (.aload_n 0, 1) := by decide +kernel
theorem d_X6_slip_1 : decode c_X6_slip 1 = .ok (.getfield 26, 3) := by decide +kernel
theorem d_X6_slip_4 : decode c_X6_slip 4 = .ok (.iload_n 1, 1) := by decide +kernel
theorem d_X6_slip_5 : decode c_X6_slip 5 = .ok (.invokevirtual 112, 3) := by decide +kernel
theorem d_X6_slip_8 : decode c_X6_slip 8 = .ok (.ifCond .eq 20, 3) := by decide +kernel
theorem d_X6_slip_11 : decode c_X6_slip 11 = .ok (.iload_n 2, 1) := by decide +kernel
theorem d_X6_slip_12 : decode c_X6_slip 12 = .ok (.bipush 6, 2) := by decide +kernel
theorem d_X6_slip_14 : decode c_X6_slip 14 = .ok (.invokestatic 40, 3) := by decide +kernel
theorem d_X6_slip_17 : decode c_X6_slip 17 = .ok (.ifCond .eq 11, 3) := by decide +kernel
theorem d_X6_slip_20 : decode c_X6_slip 20 = .ok (.iload_n 3, 1) := by decide +kernel
theorem d_X6_slip_21 : decode c_X6_slip 21 = .ok (.iconst 3, 1) := by decide +kernel
theorem d_X6_slip_22 : decode c_X6_slip 22 = .ok (.invokestatic 40, 3) := by decide +kernel
theorem d_X6_slip_25 : decode c_X6_slip 25 = .ok (.ifCond .ne 7, 3) := by decide +kernel
theorem d_X6_slip_28 : decode c_X6_slip 28 = .ok (.ldc2_w 80, 3) := by decide +kernel
theorem d_X6_slip_31 : decode c_X6_slip 31 = .ok (.lreturn, 1) := by decide +kernel
theorem d_X6_slip_32 : decode c_X6_slip 32 = .ok (.aload_n 0, 1) := by decide +kernel
theorem d_X6_slip_33 : decode c_X6_slip 33 = .ok (.getfield 26, 3) := by decide +kernel
theorem d_X6_slip_36 : decode c_X6_slip 36 = .ok (.iload_n 1, 1) := by decide +kernel
theorem d_X6_slip_37 : decode c_X6_slip 37 = .ok (.iload_n 2, 1) := by decide +kernel
theorem d_X6_slip_38 : decode c_X6_slip 38 = .ok (.iload_n 3, 1) := by decide +kernel
theorem d_X6_slip_39 : decode c_X6_slip 39 = .ok (.invokevirtual 113, 3) := by decide +kernel
theorem d_X6_slip_42 : decode c_X6_slip 42 = .ok (.lreturn, 1) := by decide +kernel
theorem d_X6_held_0 : decode c_X6_held 0 = .ok (.aload_n 0, 1) := by decide +kernel
theorem d_X6_held_1 : decode c_X6_held 1 = .ok (.getfield 26, 3) := by decide +kernel
theorem d_X6_held_4 : decode c_X6_held 4 = .ok (.iload_n 1, 1) := by decide +kernel
theorem d_X6_held_5 : decode c_X6_held 5 = .ok (.invokevirtual 112, 3) := by decide +kernel
theorem d_X6_held_8 : decode c_X6_held 8 = .ok (.ifCond .eq 12, 3) := by decide +kernel
theorem d_X6_held_11 : decode c_X6_held 11 = .ok (.iload_n 2, 1) := by decide +kernel
theorem d_X6_held_12 : decode c_X6_held 12 = .ok (.bipush 6, 2) := by decide +kernel
theorem d_X6_held_14 : decode c_X6_held 14 = .ok (.invokestatic 40, 3) := by decide +kernel
theorem d_X6_held_17 : decode c_X6_held 17 = .ok (.ifCond .ne 5, 3) := by decide +kernel
theorem d_X6_held_20 : decode c_X6_held 20 = .ok (.iconst (-1), 1) := by decide +kernel
theorem d_X6_held_21 : decode c_X6_held 21 = .ok (.ireturn, 1) := by decide +kernel
theorem d_X6_held_22 : decode c_X6_held 22 = .ok (.aload_n 0, 1) := by decide +kernel
theorem d_X6_held_23 : decode c_X6_held 23 = .ok (.getfield 26, 3) := by decide +kernel
theorem d_X6_held_26 : decode c_X6_held 26 = .ok (.getfield 117, 3) := by decide +kernel
theorem d_X6_held_29 : decode c_X6_held 29 = .ok (.iload_n 1, 1) := by decide +kernel
theorem d_X6_held_30 : decode c_X6_held 30 = .ok (.bipush 6, 2) := by decide +kernel
theorem d_X6_held_32 : decode c_X6_held 32 = .ok (.imul, 1) := by decide +kernel
theorem d_X6_held_33 : decode c_X6_held 33 = .ok (.iload_n 2, 1) := by decide +kernel
theorem d_X6_held_34 : decode c_X6_held 34 = .ok (.iadd, 1) := by decide +kernel
theorem d_X6_held_35 : decode c_X6_held 35 = .ok (.iaload, 1) := by decide +kernel
theorem d_X6_held_36 : decode c_X6_held 36 = .ok (.ireturn, 1) := by decide +kernel
theorem d_X6_account_0 : decode c_X6_account 0 = .ok (.iload_n 1, 1) := by decide +kernel
theorem d_X6_account_1 : decode c_X6_account 1 = .ok (.iconst 3, 1) := by decide +kernel
theorem d_X6_account_2 : decode c_X6_account 2 = .ok (.invokestatic 40, 3) := by decide +kernel
theorem d_X6_account_5 : decode c_X6_account 5 = .ok (.ifCond .ne 7, 3) := by decide +kernel
theorem d_X6_account_8 : decode c_X6_account 8 = .ok (.ldc2_w 80, 3) := by decide +kernel
theorem d_X6_account_11 : decode c_X6_account 11 = .ok (.lreturn, 1) := by decide +kernel
theorem d_X6_account_12 : decode c_X6_account 12 = .ok (.iload_n 1, 1) := by decide +kernel
theorem d_X6_account_13 : decode c_X6_account 13 = .ok (.ifCond .ne 14, 3) := by decide +kernel
theorem d_X6_account_16 : decode c_X6_account 16 = .ok (.aload_n 0, 1) := by decide +kernel
theorem d_X6_account_17 : decode c_X6_account 17 = .ok (.getfield 26, 3) := by decide +kernel
theorem d_X6_account_20 : decode c_X6_account 20 = .ok (.iconst 0, 1) := by decide +kernel
theorem d_X6_account_21 : decode c_X6_account 21 = .ok (.invokevirtual 120, 3) := by decide +kernel
theorem d_X6_account_24 : decode c_X6_account 24 = .ok (.goto 12, 3) := by decide +kernel
theorem d_X6_account_27 : decode c_X6_account 27 = .ok (.aload_n 0, 1) := by decide +kernel
theorem d_X6_account_28 : decode c_X6_account 28 = .ok (.getfield 26, 3) := by decide +kernel
theorem d_X6_account_31 : decode c_X6_account 31 = .ok (.iload_n 1, 1) := by decide +kernel
theorem d_X6_account_32 : decode c_X6_account 32 = .ok (.invokevirtual 120, 3) := by decide +kernel
theorem d_X6_account_35 : decode c_X6_account 35 = .ok (.lneg, 1) := by decide +kernel
theorem d_X6_account_36 : decode c_X6_account 36 = .ok (.lreturn, 1) := by decide +kernel
theorem d_X6_paid_0 : decode c_X6_paid 0 = .ok (.iload_n 1, 1) := by decide +kernel
theorem d_X6_paid_1 : decode c_X6_paid 1 = .ok (.bipush 6, 2) := by decide +kernel
theorem d_X6_paid_3 : decode c_X6_paid 3 = .ok (.invokestatic 40, 3) := by decide +kernel
theorem d_X6_paid_6 : decode c_X6_paid 6 = .ok (.ifCond .eq 11, 3) := by decide +kernel
theorem d_X6_paid_9 : decode c_X6_paid 9 = .ok (.iload_n 2, 1) := by decide +kernel
theorem d_X6_paid_10 : decode c_X6_paid 10 = .ok (.iconst 2, 1) := by decide +kernel
theorem d_X6_paid_11 : decode c_X6_paid 11 = .ok (.invokestatic 40, 3) := by decide +kernel
theorem d_X6_paid_14 : decode c_X6_paid 14 = .ok (.ifCond .ne 7, 3) := by decide +kernel
theorem d_X6_paid_17 : decode c_X6_paid 17 = .ok (.ldc2_w 80, 3) := by decide +kernel
theorem d_X6_paid_20 : decode c_X6_paid 20 = .ok (.lreturn, 1) := by decide +kernel
theorem d_X6_paid_21 : decode c_X6_paid 21 = .ok (.aload_n 0, 1) := by decide +kernel
theorem d_X6_paid_22 : decode c_X6_paid 22 = .ok (.getfield 18, 3) := by decide +kernel
theorem d_X6_paid_25 : decode c_X6_paid 25 = .ok (.iload_n 1, 1) := by decide +kernel
theorem d_X6_paid_26 : decode c_X6_paid 26 = .ok (.aaload, 1) := by decide +kernel
theorem d_X6_paid_27 : decode c_X6_paid 27 = .ok (.iload_n 2, 1) := by decide +kernel
theorem d_X6_paid_28 : decode c_X6_paid 28 = .ok (.invokevirtual 124, 3) := by decide +kernel
theorem d_X6_paid_31 : decode c_X6_paid 31 = .ok (.lreturn, 1) := by decide +kernel
theorem d_X6_count_0 : decode c_X6_count 0 = .ok (.iload_n 1, 1) := by decide +kernel
theorem d_X6_count_1 : decode c_X6_count 1 = .ok (.tableswitch 121 0 7 #[47, 58, 66, 74, 82, 87, 100, 113], 47) := by decide +kernel
theorem d_X6_count_48 : decode c_X6_count 48 = .ok (.aload_n 0, 1) := by decide +kernel
theorem d_X6_count_49 : decode c_X6_count 49 = .ok (.getfield 12, 3) := by decide +kernel
theorem d_X6_count_52 : decode c_X6_count 52 = .ok (.getfield 30, 3) := by decide +kernel
theorem d_X6_count_55 : decode c_X6_count 55 = .ok (.getfield 127, 3) := by decide +kernel
theorem d_X6_count_58 : decode c_X6_count 58 = .ok (.ireturn, 1) := by decide +kernel
theorem d_X6_count_59 : decode c_X6_count 59 = .ok (.aload_n 0, 1) := by decide +kernel
theorem d_X6_count_60 : decode c_X6_count 60 = .ok (.getfield 26, 3) := by decide +kernel
theorem d_X6_count_63 : decode c_X6_count 63 = .ok (.getfield 90, 3) := by decide +kernel
theorem d_X6_count_66 : decode c_X6_count 66 = .ok (.ireturn, 1) := by decide +kernel
theorem d_X6_count_67 : decode c_X6_count 67 = .ok (.aload_n 0, 1) := by decide +kernel
theorem d_X6_count_68 : decode c_X6_count 68 = .ok (.getfield 26, 3) := by decide +kernel
theorem d_X6_count_71 : decode c_X6_count 71 = .ok (.invokevirtual 128, 3) := by decide +kernel
theorem d_X6_count_74 : decode c_X6_count 74 = .ok (.ireturn, 1) := by decide +kernel
theorem d_X6_count_75 : decode c_X6_count 75 = .ok (.aload_n 0, 1) := by decide +kernel
theorem d_X6_count_76 : decode c_X6_count 76 = .ok (.getfield 26, 3) := by decide +kernel
theorem d_X6_count_79 : decode c_X6_count 79 = .ok (.invokevirtual 131, 3) := by decide +kernel
theorem d_X6_count_82 : decode c_X6_count 82 = .ok (.ireturn, 1) := by decide +kernel
theorem d_X6_count_83 : decode c_X6_count 83 = .ok (.aload_n 0, 1) := by decide +kernel
theorem d_X6_count_84 : decode c_X6_count 84 = .ok (.invokevirtual 134, 3) := by decide +kernel
theorem d_X6_count_87 : decode c_X6_count 87 = .ok (.ireturn, 1) := by decide +kernel
theorem d_X6_count_88 : decode c_X6_count 88 = .ok (.aload_n 0, 1) := by decide +kernel
theorem d_X6_count_89 : decode c_X6_count 89 = .ok (.getfield 12, 3) := by decide +kernel
theorem d_X6_count_92 : decode c_X6_count 92 = .ok (.getfield 55, 3) := by decide +kernel
theorem d_X6_count_95 : decode c_X6_count 95 = .ok (.iconst 0, 1) := by decide +kernel
theorem d_X6_count_96 : decode c_X6_count 96 = .ok (.aaload, 1) := by decide +kernel
theorem d_X6_count_97 : decode c_X6_count 97 = .ok (.getfield 137, 3) := by decide +kernel
theorem d_X6_count_100 : decode c_X6_count 100 = .ok (.ireturn, 1) := by decide +kernel
theorem d_X6_count_101 : decode c_X6_count 101 = .ok (.aload_n 0, 1) := by decide +kernel
theorem d_X6_count_102 : decode c_X6_count 102 = .ok (.getfield 12, 3) := by decide +kernel
theorem d_X6_count_105 : decode c_X6_count 105 = .ok (.getfield 55, 3) := by decide +kernel
theorem d_X6_count_108 : decode c_X6_count 108 = .ok (.iconst 1, 1) := by decide +kernel
theorem d_X6_count_109 : decode c_X6_count 109 = .ok (.aaload, 1) := by decide +kernel
theorem d_X6_count_110 : decode c_X6_count 110 = .ok (.getfield 137, 3) := by decide +kernel
theorem d_X6_count_113 : decode c_X6_count 113 = .ok (.ireturn, 1) := by decide +kernel
theorem d_X6_count_114 : decode c_X6_count 114 = .ok (.aload_n 0, 1) := by decide +kernel
theorem d_X6_count_115 : decode c_X6_count 115 = .ok (.getfield 12, 3) := by decide +kernel
theorem d_X6_count_118 : decode c_X6_count 118 = .ok (.invokevirtual 140, 3) := by decide +kernel
theorem d_X6_count_121 : decode c_X6_count 121 = .ok (.ireturn, 1) := by decide +kernel
theorem d_X6_count_122 : decode c_X6_count 122 = .ok (.iconst (-1), 1) := by decide +kernel
theorem d_X6_count_123 : decode c_X6_count 123 = .ok (.ireturn, 1) := by decide +kernel
theorem d_X6_within_0 : decode c_X6_within 0 = .ok (.iload_n 0, 1) := by decide +kernel
theorem d_X6_within_1 : decode c_X6_within 1 = .ok (.ifCond .lt 12, 3) := by decide +kernel
theorem d_X6_within_4 : decode c_X6_within 4 = .ok (.iload_n 0, 1) := by decide +kernel
theorem d_X6_within_5 : decode c_X6_within 5 = .ok (.iload_n 1, 1) := by decide +kernel
theorem d_X6_within_6 : decode c_X6_within 6 = .ok (.if_icmp .ge 7, 3) := by decide +kernel
theorem d_X6_within_9 : decode c_X6_within 9 = .ok (.iconst 1, 1) := by decide +kernel
theorem d_X6_within_10 : decode c_X6_within 10 = .ok (.goto 4, 3) := by decide +kernel
theorem d_X6_within_13 : decode c_X6_within 13 = .ok (.iconst 0, 1) := by decide +kernel
theorem d_X6_within_14 : decode c_X6_within 14 = .ok (.ireturn, 1) := by decide +kernel
theorem d_X6_howManyActive_0 : decode c_X6_howManyActive 0 = .ok (.iconst 0, 1) := by decide +kernel
theorem d_X6_howManyActive_1 : decode c_X6_howManyActive 1 = .ok (.istore_n 1, 1) := by decide +kernel
theorem d_X6_howManyActive_2 : decode c_X6_howManyActive 2 = .ok (.iconst 0, 1) := by decide +kernel
theorem d_X6_howManyActive_3 : decode c_X6_howManyActive 3 = .ok (.istore_n 2, 1) := by decide +kernel
theorem d_X6_howManyActive_4 : decode c_X6_howManyActive 4 = .ok (.iload_n 2, 1) := by decide +kernel
theorem d_X6_howManyActive_5 : decode c_X6_howManyActive 5 = .ok (.bipush 6, 2) := by decide +kernel
theorem d_X6_howManyActive_7 : decode c_X6_howManyActive 7 = .ok (.if_icmp .ge 24, 3) := by decide +kernel
theorem d_X6_howManyActive_10 : decode c_X6_howManyActive 10 = .ok (.aload_n 0, 1) := by decide +kernel
theorem d_X6_howManyActive_11 : decode c_X6_howManyActive 11 = .ok (.getfield 18, 3) := by decide +kernel
theorem d_X6_howManyActive_14 : decode c_X6_howManyActive 14 = .ok (.iload_n 2, 1) := by decide +kernel
theorem d_X6_howManyActive_15 : decode c_X6_howManyActive 15 = .ok (.aaload, 1) := by decide +kernel
theorem d_X6_howManyActive_16 : decode c_X6_howManyActive 16 = .ok (.getfield 72, 3) := by decide +kernel
theorem d_X6_howManyActive_19 : decode c_X6_howManyActive 19 = .ok (.ifCond .eq 6, 3) := by decide +kernel
theorem d_X6_howManyActive_22 : decode c_X6_howManyActive 22 = .ok (.iinc 1 1, 3) := by decide +kernel
theorem d_X6_howManyActive_25 : decode c_X6_howManyActive 25 = .ok (.iinc 2 1, 3) := by decide +kernel
theorem d_X6_howManyActive_28 : decode c_X6_howManyActive 28 = .ok (.goto (-24), 3) := by decide +kernel
theorem d_X6_howManyActive_31 : decode c_X6_howManyActive 31 = .ok (.iload_n 1, 1) := by decide +kernel
theorem d_X6_howManyActive_32 : decode c_X6_howManyActive 32 = .ok (.ireturn, 1) := by decide +kernel
theorem d_X6_payAll_0 : decode c_X6_payAll 0 = .ok (.iconst 0, 1) := by decide +kernel
theorem d_X6_payAll_1 : decode c_X6_payAll 1 = .ok (.istore_n 2, 1) := by decide +kernel
theorem d_X6_payAll_2 : decode c_X6_payAll 2 = .ok (.iload_n 2, 1) := by decide +kernel
theorem d_X6_payAll_3 : decode c_X6_payAll 3 = .ok (.bipush 6, 2) := by decide +kernel
theorem d_X6_payAll_5 : decode c_X6_payAll 5 = .ok (.if_icmp .ge 36, 3) := by decide +kernel
theorem d_X6_payAll_8 : decode c_X6_payAll 8 = .ok (.aload_n 0, 1) := by decide +kernel
theorem d_X6_payAll_9 : decode c_X6_payAll 9 = .ok (.getfield 26, 3) := by decide +kernel
theorem d_X6_payAll_12 : decode c_X6_payAll 12 = .ok (.iload_n 1, 1) := by decide +kernel
theorem d_X6_payAll_13 : decode c_X6_payAll 13 = .ok (.iload_n 2, 1) := by decide +kernel
theorem d_X6_payAll_14 : decode c_X6_payAll 14 = .ok (.invokevirtual 143, 3) := by decide +kernel
theorem d_X6_payAll_17 : decode c_X6_payAll 17 = .ok (.aload_n 0, 1) := by decide +kernel
theorem d_X6_payAll_18 : decode c_X6_payAll 18 = .ok (.getfield 18, 3) := by decide +kernel
theorem d_X6_payAll_21 : decode c_X6_payAll 21 = .ok (.iload_n 2, 1) := by decide +kernel
theorem d_X6_payAll_22 : decode c_X6_payAll 22 = .ok (.aaload, 1) := by decide +kernel
theorem d_X6_payAll_23 : decode c_X6_payAll 23 = .ok (.getfield 72, 3) := by decide +kernel
theorem d_X6_payAll_26 : decode c_X6_payAll 26 = .ok (.ifCond .eq 9, 3) := by decide +kernel
theorem d_X6_payAll_29 : decode c_X6_payAll 29 = .ok (.aload_n 0, 1) := by decide +kernel
theorem d_X6_payAll_30 : decode c_X6_payAll 30 = .ok (.iload_n 1, 1) := by decide +kernel
theorem d_X6_payAll_31 : decode c_X6_payAll 31 = .ok (.iload_n 2, 1) := by decide +kernel
theorem d_X6_payAll_32 : decode c_X6_payAll 32 = .ok (.invokevirtual 147, 3) := by decide +kernel
theorem d_X6_payAll_35 : decode c_X6_payAll 35 = .ok (.iinc 2 1, 3) := by decide +kernel
theorem d_X6_payAll_38 : decode c_X6_payAll 38 = .ok (.goto (-36), 3) := by decide +kernel
theorem d_X6_payAll_41 : decode c_X6_payAll 41 = .ok (.return_, 1) := by decide +kernel
theorem d_X6_payOne_0 : decode c_X6_payOne 0 = .ok (.aload_n 0, 1) := by decide +kernel
theorem d_X6_payOne_1 : decode c_X6_payOne 1 = .ok (.getfield 18, 3) := by decide +kernel
theorem d_X6_payOne_4 : decode c_X6_payOne 4 = .ok (.iload_n 2, 1) := by decide +kernel
theorem d_X6_payOne_5 : decode c_X6_payOne 5 = .ok (.aaload, 1) := by decide +kernel
theorem d_X6_payOne_6 : decode c_X6_payOne 6 = .ok (.astore_n 3, 1) := by decide +kernel
theorem d_X6_payOne_7 : decode c_X6_payOne 7 = .ok (.aload_n 3, 1) := by decide +kernel
theorem d_X6_payOne_8 : decode c_X6_payOne 8 = .ok (.invokevirtual 76, 3) := by decide +kernel
theorem d_X6_payOne_11 : decode c_X6_payOne 11 = .ok (.ifCond .ne 15, 3) := by decide +kernel
theorem d_X6_payOne_14 : decode c_X6_payOne 14 = .ok (.aload_n 0, 1) := by decide +kernel
theorem d_X6_payOne_15 : decode c_X6_payOne 15 = .ok (.getfield 26, 3) := by decide +kernel
theorem d_X6_payOne_18 : decode c_X6_payOne 18 = .ok (.iload_n 1, 1) := by decide +kernel
theorem d_X6_payOne_19 : decode c_X6_payOne 19 = .ok (.iload_n 2, 1) := by decide +kernel
theorem d_X6_payOne_20 : decode c_X6_payOne 20 = .ok (.bipush 6, 2) := by decide +kernel
theorem d_X6_payOne_22 : decode c_X6_payOne 22 = .ok (.invokevirtual 150, 3) := by decide +kernel
theorem d_X6_payOne_25 : decode c_X6_payOne 25 = .ok (.return_, 1) := by decide +kernel
theorem d_X6_payOne_26 : decode c_X6_payOne 26 = .ok (.aload_n 0, 1) := by decide +kernel
theorem d_X6_payOne_27 : decode c_X6_payOne 27 = .ok (.getfield 12, 3) := by decide +kernel
theorem d_X6_payOne_30 : decode c_X6_payOne 30 = .ok (.aload_n 3, 1) := by decide +kernel
theorem d_X6_payOne_31 : decode c_X6_payOne 31 = .ok (.invokevirtual 82, 3) := by decide +kernel
theorem d_X6_payOne_34 : decode c_X6_payOne 34 = .ok (.aload_n 0, 1) := by decide +kernel
theorem d_X6_payOne_35 : decode c_X6_payOne 35 = .ok (.getfield 12, 3) := by decide +kernel
theorem d_X6_payOne_38 : decode c_X6_payOne 38 = .ok (.iconst 0, 1) := by decide +kernel
theorem d_X6_payOne_39 : decode c_X6_payOne 39 = .ok (.invokevirtual 154, 3) := by decide +kernel
theorem d_X6_payOne_42 : decode c_X6_payOne 42 = .ok (.lstore 4, 2) := by decide +kernel
theorem d_X6_payOne_44 : decode c_X6_payOne 44 = .ok (.aload_n 0, 1) := by decide +kernel
theorem d_X6_payOne_45 : decode c_X6_payOne 45 = .ok (.getfield 12, 3) := by decide +kernel
theorem d_X6_payOne_48 : decode c_X6_payOne 48 = .ok (.iconst 1, 1) := by decide +kernel
theorem d_X6_payOne_49 : decode c_X6_payOne 49 = .ok (.invokevirtual 154, 3) := by decide +kernel
theorem d_X6_payOne_52 : decode c_X6_payOne 52 = .ok (.lstore 6, 2) := by decide +kernel
theorem d_X6_payOne_54 : decode c_X6_payOne 54 = .ok (.aload_n 0, 1) := by decide +kernel
theorem d_X6_payOne_55 : decode c_X6_payOne 55 = .ok (.getfield 12, 3) := by decide +kernel
theorem d_X6_payOne_58 : decode c_X6_payOne 58 = .ok (.iconst 2, 1) := by decide +kernel
theorem d_X6_payOne_59 : decode c_X6_payOne 59 = .ok (.invokevirtual 154, 3) := by decide +kernel
theorem d_X6_payOne_62 : decode c_X6_payOne 62 = .ok (.lstore 8, 2) := by decide +kernel
theorem d_X6_payOne_64 : decode c_X6_payOne 64 = .ok (.aload_n 3, 1) := by decide +kernel
theorem d_X6_payOne_65 : decode c_X6_payOne 65 = .ok (.lload 4, 2) := by decide +kernel
theorem d_X6_payOne_67 : decode c_X6_payOne 67 = .ok (.lload 6, 2) := by decide +kernel
theorem d_X6_payOne_69 : decode c_X6_payOne 69 = .ok (.lload 8, 2) := by decide +kernel
theorem d_X6_payOne_71 : decode c_X6_payOne 71 = .ok (.invokevirtual 157, 3) := by decide +kernel
theorem d_X6_payOne_74 : decode c_X6_payOne 74 = .ok (.istore 10, 2) := by decide +kernel
theorem d_X6_payOne_76 : decode c_X6_payOne 76 = .ok (.iload 10, 2) := by decide +kernel
theorem d_X6_payOne_78 : decode c_X6_payOne 78 = .ok (.ifCond .eq 15, 3) := by decide +kernel
theorem d_X6_payOne_81 : decode c_X6_payOne 81 = .ok (.aload_n 0, 1) := by decide +kernel
theorem d_X6_payOne_82 : decode c_X6_payOne 82 = .ok (.getfield 26, 3) := by decide +kernel
theorem d_X6_payOne_85 : decode c_X6_payOne 85 = .ok (.iload_n 1, 1) := by decide +kernel
theorem d_X6_payOne_86 : decode c_X6_payOne 86 = .ok (.iload_n 2, 1) := by decide +kernel
theorem d_X6_payOne_87 : decode c_X6_payOne 87 = .ok (.iload 10, 2) := by decide +kernel
theorem d_X6_payOne_89 : decode c_X6_payOne 89 = .ok (.invokevirtual 150, 3) := by decide +kernel
theorem d_X6_payOne_92 : decode c_X6_payOne 92 = .ok (.return_, 1) := by decide +kernel
theorem d_X6_payOne_93 : decode c_X6_payOne 93 = .ok (.aload_n 0, 1) := by decide +kernel
theorem d_X6_payOne_94 : decode c_X6_payOne 94 = .ok (.getfield 26, 3) := by decide +kernel
theorem d_X6_payOne_97 : decode c_X6_payOne 97 = .ok (.iload_n 1, 1) := by decide +kernel
theorem d_X6_payOne_98 : decode c_X6_payOne 98 = .ok (.iload_n 2, 1) := by decide +kernel
theorem d_X6_payOne_99 : decode c_X6_payOne 99 = .ok (.lload 4, 2) := by decide +kernel
theorem d_X6_payOne_101 : decode c_X6_payOne 101 = .ok (.lload 6, 2) := by decide +kernel
theorem d_X6_payOne_103 : decode c_X6_payOne 103 = .ok (.lload 8, 2) := by decide +kernel
theorem d_X6_payOne_105 : decode c_X6_payOne 105 = .ok (.invokevirtual 161, 3) := by decide +kernel
theorem d_X6_payOne_108 : decode c_X6_payOne 108 = .ok (.aload_n 3, 1) := by decide +kernel
theorem d_X6_payOne_109 : decode c_X6_payOne 109 = .ok (.lload 4, 2) := by decide +kernel
theorem d_X6_payOne_111 : decode c_X6_payOne 111 = .ok (.lload 6, 2) := by decide +kernel
theorem d_X6_payOne_113 : decode c_X6_payOne 113 = .ok (.invokevirtual 165, 3) := by decide +kernel
theorem d_X6_payOne_116 : decode c_X6_payOne 116 = .ok (.return_, 1) := by decide +kernel
theorem d_X6_unpayAll_0 : decode c_X6_unpayAll 0 = .ok (.iconst 0, 1) := by decide +kernel
theorem d_X6_unpayAll_1 : decode c_X6_unpayAll 1 = .ok (.istore_n 2, 1) := by decide +kernel
theorem d_X6_unpayAll_2 : decode c_X6_unpayAll 2 = .ok (.iload_n 2, 1) := by decide +kernel
theorem d_X6_unpayAll_3 : decode c_X6_unpayAll 3 = .ok (.bipush 6, 2) := by decide +kernel
theorem d_X6_unpayAll_5 : decode c_X6_unpayAll 5 = .ok (.if_icmp .ge 52, 3) := by decide +kernel
theorem d_X6_unpayAll_8 : decode c_X6_unpayAll 8 = .ok (.aload_n 0, 1) := by decide +kernel
theorem d_X6_unpayAll_9 : decode c_X6_unpayAll 9 = .ok (.getfield 26, 3) := by decide +kernel
theorem d_X6_unpayAll_12 : decode c_X6_unpayAll 12 = .ok (.iload_n 1, 1) := by decide +kernel
theorem d_X6_unpayAll_13 : decode c_X6_unpayAll 13 = .ok (.iload_n 2, 1) := by decide +kernel
theorem d_X6_unpayAll_14 : decode c_X6_unpayAll 14 = .ok (.invokevirtual 169, 3) := by decide +kernel
theorem d_X6_unpayAll_17 : decode c_X6_unpayAll 17 = .ok (.ifCond .eq 34, 3) := by decide +kernel
theorem d_X6_unpayAll_20 : decode c_X6_unpayAll 20 = .ok (.aload_n 0, 1) := by decide +kernel
theorem d_X6_unpayAll_21 : decode c_X6_unpayAll 21 = .ok (.getfield 18, 3) := by decide +kernel
theorem d_X6_unpayAll_24 : decode c_X6_unpayAll 24 = .ok (.iload_n 2, 1) := by decide +kernel
theorem d_X6_unpayAll_25 : decode c_X6_unpayAll 25 = .ok (.aaload, 1) := by decide +kernel
theorem d_X6_unpayAll_26 : decode c_X6_unpayAll 26 = .ok (.aload_n 0, 1) := by decide +kernel
theorem d_X6_unpayAll_27 : decode c_X6_unpayAll 27 = .ok (.getfield 26, 3) := by decide +kernel
theorem d_X6_unpayAll_30 : decode c_X6_unpayAll 30 = .ok (.iload_n 1, 1) := by decide +kernel
theorem d_X6_unpayAll_31 : decode c_X6_unpayAll 31 = .ok (.iload_n 2, 1) := by decide +kernel
theorem d_X6_unpayAll_32 : decode c_X6_unpayAll 32 = .ok (.iconst 0, 1) := by decide +kernel
theorem d_X6_unpayAll_33 : decode c_X6_unpayAll 33 = .ok (.invokevirtual 113, 3) := by decide +kernel
theorem d_X6_unpayAll_36 : decode c_X6_unpayAll 36 = .ok (.lneg, 1) := by decide +kernel
theorem d_X6_unpayAll_37 : decode c_X6_unpayAll 37 = .ok (.aload_n 0, 1) := by decide +kernel
theorem d_X6_unpayAll_38 : decode c_X6_unpayAll 38 = .ok (.getfield 26, 3) := by decide +kernel
theorem d_X6_unpayAll_41 : decode c_X6_unpayAll 41 = .ok (.iload_n 1, 1) := by decide +kernel
theorem d_X6_unpayAll_42 : decode c_X6_unpayAll 42 = .ok (.iload_n 2, 1) := by decide +kernel
theorem d_X6_unpayAll_43 : decode c_X6_unpayAll 43 = .ok (.iconst 1, 1) := by decide +kernel
theorem d_X6_unpayAll_44 : decode c_X6_unpayAll 44 = .ok (.invokevirtual 113, 3) := by decide +kernel
theorem d_X6_unpayAll_47 : decode c_X6_unpayAll 47 = .ok (.lneg, 1) := by decide +kernel
theorem d_X6_unpayAll_48 : decode c_X6_unpayAll 48 = .ok (.invokevirtual 165, 3) := by decide +kernel
theorem d_X6_unpayAll_51 : decode c_X6_unpayAll 51 = .ok (.iinc 2 1, 3) := by decide +kernel
theorem d_X6_unpayAll_54 : decode c_X6_unpayAll 54 = .ok (.goto (-52), 3) := by decide +kernel
theorem d_X6_unpayAll_57 : decode c_X6_unpayAll 57 = .ok (.return_, 1) := by decide +kernel
theorem d_X7_init_0 : decode c_X7_init 0 = .ok (.aload_n 0, 1) := by decide +kernel
theorem d_X7_init_1 : decode c_X7_init 1 = .ok (.invokespecial 1, 3) := by decide +kernel
theorem d_X7_init_4 : decode c_X7_init 4 = .ok (.aload_n 0, 1) := by decide +kernel
theorem d_X7_init_5 : decode c_X7_init 5 = .ok (.iconst 0, 1) := by decide +kernel
theorem d_X7_init_6 : decode c_X7_init 6 = .ok (.putfield 7, 3) := by decide +kernel
theorem d_X7_init_9 : decode c_X7_init 9 = .ok (.aload_n 0, 1) := by decide +kernel
theorem d_X7_init_10 : decode c_X7_init 10 = .ok (.iconst 0, 1) := by decide +kernel
theorem d_X7_init_11 : decode c_X7_init 11 = .ok (.putfield 13, 3) := by decide +kernel
theorem d_X7_init_14 : decode c_X7_init 14 = .ok (.aload_n 0, 1) := by decide +kernel
theorem d_X7_init_15 : decode c_X7_init 15 = .ok (.bipush 70, 2) := by decide +kernel
theorem d_X7_init_17 : decode c_X7_init 17 = .ok (.newarray .int, 2) := by decide +kernel
theorem d_X7_init_19 : decode c_X7_init 19 = .ok (.putfield 16, 3) := by decide +kernel
theorem d_X7_init_22 : decode c_X7_init 22 = .ok (.aload_n 0, 1) := by decide +kernel
theorem d_X7_init_23 : decode c_X7_init 23 = .ok (.bipush 70, 2) := by decide +kernel
theorem d_X7_init_25 : decode c_X7_init 25 = .ok (.newarray .int, 2) := by decide +kernel
theorem d_X7_init_27 : decode c_X7_init 27 = .ok (.putfield 20, 3) := by decide +kernel
theorem d_X7_init_30 : decode c_X7_init 30 = .ok (.aload_n 0, 1) := by decide +kernel
theorem d_X7_init_31 : decode c_X7_init 31 = .ok (.bipush 70, 2) := by decide +kernel
theorem d_X7_init_33 : decode c_X7_init 33 = .ok (.newarray .int, 2) := by decide +kernel
theorem d_X7_init_35 : decode c_X7_init 35 = .ok (.putfield 23, 3) := by decide +kernel
theorem d_X7_init_38 : decode c_X7_init 38 = .ok (.aload_n 0, 1) := by decide +kernel
theorem d_X7_init_39 : decode c_X7_init 39 = .ok (.bipush 70, 2) := by decide +kernel
theorem d_X7_init_41 : decode c_X7_init 41 = .ok (.newarray .int, 2) := by decide +kernel
theorem d_X7_init_43 : decode c_X7_init 43 = .ok (.putfield 26, 3) := by decide +kernel
theorem d_X7_init_46 : decode c_X7_init 46 = .ok (.aload_n 0, 1) := by decide +kernel
theorem d_X7_init_47 : decode c_X7_init 47 = .ok (.bipush 70, 2) := by decide +kernel
theorem d_X7_init_49 : decode c_X7_init 49 = .ok (.newarray .int, 2) := by decide +kernel
theorem d_X7_init_51 : decode c_X7_init 51 = .ok (.putfield 29, 3) := by decide +kernel
theorem d_X7_init_54 : decode c_X7_init 54 = .ok (.aload_n 0, 1) := by decide +kernel
theorem d_X7_init_55 : decode c_X7_init 55 = .ok (.bipush 70, 2) := by decide +kernel
theorem d_X7_init_57 : decode c_X7_init 57 = .ok (.newarray .int, 2) := by decide +kernel
theorem d_X7_init_59 : decode c_X7_init 59 = .ok (.putfield 32, 3) := by decide +kernel
theorem d_X7_init_62 : decode c_X7_init 62 = .ok (.aload_n 0, 1) := by decide +kernel
theorem d_X7_init_63 : decode c_X7_init 63 = .ok (.bipush 8, 2) := by decide +kernel
theorem d_X7_init_65 : decode c_X7_init 65 = .ok (.newarray .int, 2) := by decide +kernel
theorem d_X7_init_67 : decode c_X7_init 67 = .ok (.putfield 35, 3) := by decide +kernel
theorem d_X7_init_70 : decode c_X7_init 70 = .ok (.aload_n 0, 1) := by decide +kernel
theorem d_X7_init_71 : decode c_X7_init 71 = .ok (.iconst 2, 1) := by decide +kernel
theorem d_X7_init_72 : decode c_X7_init 72 = .ok (.newarray .int, 2) := by decide +kernel
theorem d_X7_init_74 : decode c_X7_init 74 = .ok (.putfield 38, 3) := by decide +kernel
theorem d_X7_init_77 : decode c_X7_init 77 = .ok (.aload_n 0, 1) := by decide +kernel
theorem d_X7_init_78 : decode c_X7_init 78 = .ok (.bipush 10, 2) := by decide +kernel
theorem d_X7_init_80 : decode c_X7_init 80 = .ok (.newarray .int, 2) := by decide +kernel
theorem d_X7_init_82 : decode c_X7_init 82 = .ok (.putfield 41, 3) := by decide +kernel
theorem d_X7_init_85 : decode c_X7_init 85 = .ok (.aload_n 0, 1) := by decide +kernel
theorem d_X7_init_86 : decode c_X7_init 86 = .ok (.bipush 10, 2) := by decide +kernel
theorem d_X7_init_88 : decode c_X7_init 88 = .ok (.newarray .int, 2) := by decide +kernel
theorem d_X7_init_90 : decode c_X7_init 90 = .ok (.putfield 44, 3) := by decide +kernel
theorem d_X7_init_93 : decode c_X7_init 93 = .ok (.aload_n 0, 1) := by decide +kernel
theorem d_X7_init_94 : decode c_X7_init 94 = .ok (.bipush 48, 2) := by decide +kernel
theorem d_X7_init_96 : decode c_X7_init 96 = .ok (.newarray .int, 2) := by decide +kernel
theorem d_X7_init_98 : decode c_X7_init 98 = .ok (.putfield 47, 3) := by decide +kernel
theorem d_X7_init_101 : decode c_X7_init 101 = .ok (.aload_n 0, 1) := by decide +kernel
theorem d_X7_init_102 : decode c_X7_init 102 = .ok (.bipush 6, 2) := by decide +kernel
theorem d_X7_init_104 : decode c_X7_init 104 = .ok (.newarray .boolean, 2) := by decide +kernel
theorem d_X7_init_106 : decode c_X7_init 106 = .ok (.putfield 50, 3) := by decide +kernel
theorem d_X7_init_109 : decode c_X7_init 109 = .ok (.aload_n 0, 1) := by decide +kernel
theorem d_X7_init_110 : decode c_X7_init 110 = .ok (.bipush 16, 2) := by decide +kernel
theorem d_X7_init_112 : decode c_X7_init 112 = .ok (.newarray .boolean, 2) := by decide +kernel
theorem d_X7_init_114 : decode c_X7_init 114 = .ok (.putfield 54, 3) := by decide +kernel
theorem d_X7_init_117 : decode c_X7_init 117 = .ok (.aload_n 0, 1) := by decide +kernel
theorem d_X7_init_118 : decode c_X7_init 118 = .ok (.bipush 96, 2) := by decide +kernel
theorem d_X7_init_120 : decode c_X7_init 120 = .ok (.newarray .boolean, 2) := by decide +kernel
theorem d_X7_init_122 : decode c_X7_init 122 = .ok (.putfield 57, 3) := by decide +kernel
theorem d_X7_init_125 : decode c_X7_init 125 = .ok (.aload_n 0, 1) := by decide +kernel
theorem d_X7_init_126 : decode c_X7_init 126 = .ok (.bipush 96, 2) := by decide +kernel
theorem d_X7_init_128 : decode c_X7_init 128 = .ok (.newarray .int, 2) := by decide +kernel
theorem d_X7_init_130 : decode c_X7_init 130 = .ok (.putfield 60, 3) := by decide +kernel
theorem d_X7_init_133 : decode c_X7_init 133 = .ok (.aload_n 0, 1) := by decide +kernel
theorem d_X7_init_134 : decode c_X7_init 134 = .ok (.sipush 288, 3) := by decide +kernel
theorem d_X7_init_137 : decode c_X7_init 137 = .ok (.newarray .long, 2) := by decide +kernel
theorem d_X7_init_139 : decode c_X7_init 139 = .ok (.putfield 63, 3) := by decide +kernel
theorem d_X7_init_142 : decode c_X7_init 142 = .ok (.aload_n 0, 1) := by decide +kernel
theorem d_X7_init_143 : decode c_X7_init 143 = .ok (.bipush 12, 2) := by decide +kernel
theorem d_X7_init_145 : decode c_X7_init 145 = .ok (.newarray .long, 2) := by decide +kernel
theorem d_X7_init_147 : decode c_X7_init 147 = .ok (.putfield 67, 3) := by decide +kernel
theorem d_X7_init_150 : decode c_X7_init 150 = .ok (.aload_n 0, 1) := by decide +kernel
theorem d_X7_init_151 : decode c_X7_init 151 = .ok (.bipush 70, 2) := by decide +kernel
theorem d_X7_init_153 : decode c_X7_init 153 = .ok (.newarray .long, 2) := by decide +kernel
theorem d_X7_init_155 : decode c_X7_init 155 = .ok (.putfield 70, 3) := by decide +kernel
theorem d_X7_init_158 : decode c_X7_init 158 = .ok (.aload_n 0, 1) := by decide +kernel
theorem d_X7_init_159 : decode c_X7_init 159 = .ok (.bipush 8, 2) := by decide +kernel
theorem d_X7_init_161 : decode c_X7_init 161 = .ok (.newarray .long, 2) := by decide +kernel
theorem d_X7_init_163 : decode c_X7_init 163 = .ok (.putfield 73, 3) := by decide +kernel
theorem d_X7_init_166 : decode c_X7_init 166 = .ok (.iconst 0, 1) := by decide +kernel
theorem d_X7_init_167 : decode c_X7_init 167 = .ok (.istore_n 1, 1) := by decide +kernel
theorem d_X7_init_168 : decode c_X7_init 168 = .ok (.iload_n 1, 1) := by decide +kernel
theorem d_X7_init_169 : decode c_X7_init 169 = .ok (.bipush 8, 2) := by decide +kernel
theorem d_X7_init_171 : decode c_X7_init 171 = .ok (.if_icmp .ge 16, 3) := by decide +kernel
theorem d_X7_init_174 : decode c_X7_init 174 = .ok (.aload_n 0, 1) := by decide +kernel
theorem d_X7_init_175 : decode c_X7_init 175 = .ok (.getfield 35, 3) := by decide +kernel
theorem d_X7_init_178 : decode c_X7_init 178 = .ok (.iload_n 1, 1) := by decide +kernel
theorem d_X7_init_179 : decode c_X7_init 179 = .ok (.iconst (-1), 1) := by decide +kernel
theorem d_X7_init_180 : decode c_X7_init 180 = .ok (.iastore, 1) := by decide +kernel
theorem d_X7_init_181 : decode c_X7_init 181 = .ok (.iinc 1 1, 3) := by decide +kernel
theorem d_X7_init_184 : decode c_X7_init 184 = .ok (.goto (-16), 3) := by decide +kernel
theorem d_X7_init_187 : decode c_X7_init 187 = .ok (.return_, 1) := by decide +kernel
theorem d_X7_out_0 : decode c_X7_out 0 = .ok (.iload_n 1, 1) := by decide +kernel
theorem d_X7_out_1 : decode c_X7_out 1 = .ok (.iload_n 2, 1) := by decide +kernel
theorem d_X7_out_2 : decode c_X7_out 2 = .ok (.if_icmp .lt 8, 3) := by decide +kernel
theorem d_X7_out_5 : decode c_X7_out 5 = .ok (.iload_n 1, 1) := by decide +kernel
theorem d_X7_out_6 : decode c_X7_out 6 = .ok (.iload_n 3, 1) := by decide +kernel
theorem d_X7_out_7 : decode c_X7_out 7 = .ok (.if_icmp .le 7, 3) := by decide +kernel
theorem d_X7_out_10 : decode c_X7_out 10 = .ok (.iconst 1, 1) := by decide +kernel
theorem d_X7_out_11 : decode c_X7_out 11 = .ok (.goto 4, 3) := by decide +kernel
theorem d_X7_out_14 : decode c_X7_out 14 = .ok (.iconst 0, 1) := by decide +kernel
theorem d_X7_out_15 : decode c_X7_out 15 = .ok (.ireturn, 1) := by decide +kernel
theorem d_X7_isNode_0 : decode c_X7_isNode 0 = .ok (.iload_n 1, 1) := by decide +kernel
theorem d_X7_isNode_1 : decode c_X7_isNode 1 = .ok (.ifCond .lt 15, 3) := by decide +kernel
theorem d_X7_isNode_4 : decode c_X7_isNode 4 = .ok (.iload_n 1, 1) := by decide +kernel
theorem d_X7_isNode_5 : decode c_X7_isNode 5 = .ok (.aload_n 0, 1) := by decide +kernel
theorem d_X7_isNode_6 : decode c_X7_isNode 6 = .ok (.getfield 7, 3) := by decide +kernel
theorem d_X7_isNode_9 : decode c_X7_isNode 9 = .ok (.if_icmp .ge 7, 3) := by decide +kernel
theorem d_X7_isNode_12 : decode c_X7_isNode 12 = .ok (.iconst 1, 1) := by decide +kernel
theorem d_X7_isNode_13 : decode c_X7_isNode 13 = .ok (.goto 4, 3) := by decide +kernel
theorem d_X7_isNode_16 : decode c_X7_isNode 16 = .ok (.iconst 0, 1) := by decide +kernel
theorem d_X7_isNode_17 : decode c_X7_isNode 17 = .ok (.ireturn, 1) := by decide +kernel
theorem d_X7_named_0 : decode c_X7_named 0 = .ok (.iload_n 1, 1) := by decide +kernel
theorem d_X7_named_1 : decode c_X7_named 1 = .ok (.bipush 12, 2) := by decide +kernel
theorem d_X7_named_3 : decode c_X7_named 3 = .ok (.if_icmp .ne 5, 3) := by decide +kernel
theorem d_X7_named_6 : decode c_X7_named 6 = .ok (.iconst 1, 1) := by decide +kernel
theorem d_X7_named_7 : decode c_X7_named 7 = .ok (.ireturn, 1) := by decide +kernel
theorem d_X7_named_8 : decode c_X7_named 8 = .ok (.iload_n 1, 1) := by decide +kernel
theorem d_X7_named_9 : decode c_X7_named 9 = .ok (.bipush 11, 2) := by decide +kernel
theorem d_X7_named_11 : decode c_X7_named 11 = .ok (.if_icmp .eq 15, 3) := by decide +kernel
theorem d_X7_named_14 : decode c_X7_named 14 = .ok (.iload_n 1, 1) := by decide +kernel
theorem d_X7_named_15 : decode c_X7_named 15 = .ok (.bipush 15, 2) := by decide +kernel
theorem d_X7_named_17 : decode c_X7_named 17 = .ok (.if_icmp .eq 9, 3) := by decide +kernel
theorem d_X7_named_20 : decode c_X7_named 20 = .ok (.iload_n 1, 1) := by decide +kernel
theorem d_X7_named_21 : decode c_X7_named 21 = .ok (.bipush 17, 2) := by decide +kernel
theorem d_X7_named_23 : decode c_X7_named 23 = .ok (.if_icmp .ne 6, 3) := by decide +kernel
theorem d_X7_named_26 : decode c_X7_named 26 = .ok (.bipush 7, 2) := by decide +kernel
theorem d_X7_named_28 : decode c_X7_named 28 = .ok (.ireturn, 1) := by decide +kernel
theorem d_X7_named_29 : decode c_X7_named 29 = .ok (.iload_n 1, 1) := by decide +kernel
theorem d_X7_named_30 : decode c_X7_named 30 = .ok (.bipush 19, 2) := by decide +kernel
theorem d_X7_named_32 : decode c_X7_named 32 = .ok (.if_icmp .ne 5, 3) := by decide +kernel
theorem d_X7_named_35 : decode c_X7_named 35 = .ok (.iconst 2, 1) := by decide +kernel
theorem d_X7_named_36 : decode c_X7_named 36 = .ok (.ireturn, 1) := by decide +kernel
theorem d_X7_named_37 : decode c_X7_named 37 = .ok (.iload_n 1, 1) := by decide +kernel
theorem d_X7_named_38 : decode c_X7_named 38 = .ok (.iconst 3, 1) := by decide +kernel
theorem d_X7_named_39 : decode c_X7_named 39 = .ok (.if_icmp .le 9, 3) := by decide +kernel
theorem d_X7_named_42 : decode c_X7_named 42 = .ok (.iload_n 1, 1) := by decide +kernel
theorem d_X7_named_43 : decode c_X7_named 43 = .ok (.bipush 15, 2) := by decide +kernel
theorem d_X7_named_45 : decode c_X7_named 45 = .ok (.if_icmp .lt 9, 3) := by decide +kernel
theorem d_X7_named_48 : decode c_X7_named 48 = .ok (.iload_n 1, 1) := by decide +kernel
theorem d_X7_named_49 : decode c_X7_named 49 = .ok (.bipush 18, 2) := by decide +kernel
theorem d_X7_named_51 : decode c_X7_named 51 = .ok (.if_icmp .ne 7, 3) := by decide +kernel
theorem d_X7_named_54 : decode c_X7_named 54 = .ok (.iconst 3, 1) := by decide +kernel
theorem d_X7_named_55 : decode c_X7_named 55 = .ok (.goto 4, 3) := by decide +kernel
theorem d_X7_named_58 : decode c_X7_named 58 = .ok (.iconst 0, 1) := by decide +kernel
theorem d_X7_named_59 : decode c_X7_named 59 = .ok (.ireturn, 1) := by decide +kernel
theorem d_X7_fits_0 : decode c_X7_fits 0 = .ok (.aload_n 0, 1) := by decide +kernel
theorem d_X7_fits_1 : decode c_X7_fits 1 = .ok (.iload_n 1, 1) := by decide +kernel
theorem d_X7_fits_2 : decode c_X7_fits 2 = .ok (.iconst 0, 1) := by decide +kernel
theorem d_X7_fits_3 : decode c_X7_fits 3 = .ok (.bipush 19, 2) := by decide +kernel
theorem d_X7_fits_5 : decode c_X7_fits 5 = .ok (.invokevirtual 76, 3) := by decide +kernel
theorem d_X7_fits_8 : decode c_X7_fits 8 = .ok (.ifCond .eq 5, 3) := by decide +kernel
theorem d_X7_fits_11 : decode c_X7_fits 11 = .ok (.iconst 0, 1) := by decide +kernel
theorem d_X7_fits_12 : decode c_X7_fits 12 = .ok (.ireturn, 1) := by decide +kernel
theorem d_X7_fits_13 : decode c_X7_fits 13 = .ok (.iload_n 1, 1) := by decide +kernel
theorem d_X7_fits_14 : decode c_X7_fits 14 = .ok (.iconst 1, 1) := by decide +kernel
theorem d_X7_fits_15 : decode c_X7_fits 15 = .ok (.if_icmp .eq 8, 3) := by decide +kernel
theorem d_X7_fits_18 : decode c_X7_fits 18 = .ok (.iload_n 1, 1) := by decide +kernel
theorem d_X7_fits_19 : decode c_X7_fits 19 = .ok (.iconst 2, 1) := by decide +kernel
theorem d_X7_fits_20 : decode c_X7_fits 20 = .ok (.if_icmp .ne 14, 3) := by decide +kernel
theorem d_X7_fits_23 : decode c_X7_fits 23 = .ok (.aload_n 0, 1) := by decide +kernel
theorem d_X7_fits_24 : decode c_X7_fits 24 = .ok (.iload_n 2, 1) := by decide +kernel
theorem d_X7_fits_25 : decode c_X7_fits 25 = .ok (.iconst 0, 1) := by decide +kernel
theorem d_X7_fits_26 : decode c_X7_fits 26 = .ok (.bipush 7, 2) := by decide +kernel
theorem d_X7_fits_28 : decode c_X7_fits 28 = .ok (.invokevirtual 76, 3) := by decide +kernel
theorem d_X7_fits_31 : decode c_X7_fits 31 = .ok (.ifCond .ne 24, 3) := by decide +kernel
theorem d_X7_fits_34 : decode c_X7_fits 34 = .ok (.iload_n 1, 1) := by decide +kernel
theorem d_X7_fits_35 : decode c_X7_fits 35 = .ok (.iconst 3, 1) := by decide +kernel
theorem d_X7_fits_36 : decode c_X7_fits 36 = .ok (.if_icmp .eq 9, 3) := by decide +kernel
theorem d_X7_fits_39 : decode c_X7_fits 39 = .ok (.iload_n 1, 1) := by decide +kernel
theorem d_X7_fits_40 : decode c_X7_fits 40 = .ok (.bipush 19, 2) := by decide +kernel
theorem d_X7_fits_42 : decode c_X7_fits 42 = .ok (.if_icmp .ne 15, 3) := by decide +kernel
theorem d_X7_fits_45 : decode c_X7_fits 45 = .ok (.aload_n 0, 1) := by decide +kernel
theorem d_X7_fits_46 : decode c_X7_fits 46 = .ok (.iload_n 2, 1) := by decide +kernel
theorem d_X7_fits_47 : decode c_X7_fits 47 = .ok (.iconst 0, 1) := by decide +kernel
theorem d_X7_fits_48 : decode c_X7_fits 48 = .ok (.iconst 1, 1) := by decide +kernel
theorem d_X7_fits_49 : decode c_X7_fits 49 = .ok (.invokevirtual 76, 3) := by decide +kernel
theorem d_X7_fits_52 : decode c_X7_fits 52 = .ok (.ifCond .eq 5, 3) := by decide +kernel
theorem d_X7_fits_55 : decode c_X7_fits 55 = .ok (.iconst 0, 1) := by decide +kernel
theorem d_X7_fits_56 : decode c_X7_fits 56 = .ok (.ireturn, 1) := by decide +kernel
theorem d_X7_fits_57 : decode c_X7_fits 57 = .ok (.aload_n 0, 1) := by decide +kernel
theorem d_X7_fits_58 : decode c_X7_fits 58 = .ok (.iload_n 1, 1) := by decide +kernel
theorem d_X7_fits_59 : decode c_X7_fits 59 = .ok (.invokevirtual 80, 3) := by decide +kernel
theorem d_X7_fits_62 : decode c_X7_fits 62 = .ok (.istore 5, 2) := by decide +kernel
theorem d_X7_fits_64 : decode c_X7_fits 64 = .ok (.iload 5, 2) := by decide +kernel
theorem d_X7_fits_66 : decode c_X7_fits 66 = .ok (.iconst 1, 1) := by decide +kernel
theorem d_X7_fits_67 : decode c_X7_fits 67 = .ok (.iand, 1) := by decide +kernel
theorem d_X7_fits_68 : decode c_X7_fits 68 = .ok (.ifCond .eq 24, 3) := by decide +kernel
end
section
theorem d_X7_fits_71 : decode c_X7_fits 71 = .ok (.aload_n 0, 1) := by decide +kernel
theorem d_X7_fits_72 : decode c_X7_fits 72 = .ok (.iload_n 2, 1) := by decide +kernel
theorem d_X7_fits_73 : decode c_X7_fits 73 = .ok (.invokevirtual 84, 3) := by decide +kernel
theorem d_X7_fits_76 : decode c_X7_fits 76 = .ok (.ifCond .ne 16, 3) := by decide +kernel
theorem d_X7_fits_79 : decode c_X7_fits 79 = .ok (.iload_n 1, 1) := by decide +kernel
theorem d_X7_fits_80 : decode c_X7_fits 80 = .ok (.bipush 17, 2) := by decide +kernel
theorem d_X7_fits_82 : decode c_X7_fits 82 = .ok (.if_icmp .ne 8, 3) := by decide +kernel
theorem d_X7_fits_85 : decode c_X7_fits 85 = .ok (.iload_n 2, 1) := by decide +kernel
theorem d_X7_fits_86 : decode c_X7_fits 86 = .ok (.iconst (-1), 1) := by decide +kernel
theorem d_X7_fits_87 : decode c_X7_fits 87 = .ok (.if_icmp .eq 5, 3) := by decide +kernel
theorem d_X7_fits_90 : decode c_X7_fits 90 = .ok (.iconst 0, 1) := by decide +kernel
theorem d_X7_fits_91 : decode c_X7_fits 91 = .ok (.ireturn, 1) := by decide +kernel
theorem d_X7_fits_92 : decode c_X7_fits 92 = .ok (.iload 5, 2) := by decide +kernel
theorem d_X7_fits_94 : decode c_X7_fits 94 = .ok (.iconst 2, 1) := by decide +kernel
theorem d_X7_fits_95 : decode c_X7_fits 95 = .ok (.iand, 1) := by decide +kernel
theorem d_X7_fits_96 : decode c_X7_fits 96 = .ok (.ifCond .eq 11, 3) := by decide +kernel
theorem d_X7_fits_99 : decode c_X7_fits 99 = .ok (.aload_n 0, 1) := by decide +kernel
theorem d_X7_fits_100 : decode c_X7_fits 100 = .ok (.iload_n 3, 1) := by decide +kernel
theorem d_X7_fits_101 : decode c_X7_fits 101 = .ok (.invokevirtual 84, 3) := by decide +kernel
theorem d_X7_fits_104 : decode c_X7_fits 104 = .ok (.ifCond .eq 23, 3) := by decide +kernel
theorem d_X7_fits_107 : decode c_X7_fits 107 = .ok (.iload 5, 2) := by decide +kernel
theorem d_X7_fits_109 : decode c_X7_fits 109 = .ok (.iconst 4, 1) := by decide +kernel
theorem d_X7_fits_110 : decode c_X7_fits 110 = .ok (.iand, 1) := by decide +kernel
theorem d_X7_fits_111 : decode c_X7_fits 111 = .ok (.ifCond .eq 12, 3) := by decide +kernel
theorem d_X7_fits_114 : decode c_X7_fits 114 = .ok (.aload_n 0, 1) := by decide +kernel
theorem d_X7_fits_115 : decode c_X7_fits 115 = .ok (.iload 4, 2) := by decide +kernel
theorem d_X7_fits_117 : decode c_X7_fits 117 = .ok (.invokevirtual 84, 3) := by decide +kernel
theorem d_X7_fits_120 : decode c_X7_fits 120 = .ok (.ifCond .eq 7, 3) := by decide +kernel
theorem d_X7_fits_123 : decode c_X7_fits 123 = .ok (.iconst 1, 1) := by decide +kernel
theorem d_X7_fits_124 : decode c_X7_fits 124 = .ok (.goto 4, 3) := by decide +kernel
theorem d_X7_fits_127 : decode c_X7_fits 127 = .ok (.iconst 0, 1) := by decide +kernel
theorem d_X7_fits_128 : decode c_X7_fits 128 = .ok (.ireturn, 1) := by decide +kernel
theorem d_X7_high_0 : decode c_X7_high 0 = .ok (.iload_n 2, 1) := by decide +kernel
theorem d_X7_high_1 : decode c_X7_high 1 = .ok (.ifCond .eq 12, 3) := by decide +kernel
theorem d_X7_high_4 : decode c_X7_high 4 = .ok (.iload_n 3, 1) := by decide +kernel
theorem d_X7_high_5 : decode c_X7_high 5 = .ok (.iload_n 1, 1) := by decide +kernel
theorem d_X7_high_6 : decode c_X7_high 6 = .ok (.if_icmp .le 7, 3) := by decide +kernel
theorem d_X7_high_9 : decode c_X7_high 9 = .ok (.iload_n 3, 1) := by decide +kernel
theorem d_X7_high_10 : decode c_X7_high 10 = .ok (.goto 4, 3) := by decide +kernel
theorem d_X7_high_13 : decode c_X7_high 13 = .ok (.iload_n 1, 1) := by decide +kernel
theorem d_X7_high_14 : decode c_X7_high 14 = .ok (.ireturn, 1) := by decide +kernel
theorem d_X7_node_0 : decode c_X7_node 0 = .ok (.aload_n 0, 1) := by decide +kernel
theorem d_X7_node_1 : decode c_X7_node 1 = .ok (.iload_n 1, 1) := by decide +kernel
theorem d_X7_node_2 : decode c_X7_node 2 = .ok (.iload_n 2, 1) := by decide +kernel
theorem d_X7_node_3 : decode c_X7_node 3 = .ok (.iload_n 3, 1) := by decide +kernel
theorem d_X7_node_4 : decode c_X7_node 4 = .ok (.iload 4, 2) := by decide +kernel
theorem d_X7_node_6 : decode c_X7_node 6 = .ok (.invokevirtual 88, 3) := by decide +kernel
theorem d_X7_node_9 : decode c_X7_node 9 = .ok (.ifCond .ne 5, 3) := by decide +kernel
theorem d_X7_node_12 : decode c_X7_node 12 = .ok (.iconst (-1), 1) := by decide +kernel
theorem d_X7_node_13 : decode c_X7_node 13 = .ok (.ireturn, 1) := by decide +kernel
theorem d_X7_node_14 : decode c_X7_node 14 = .ok (.aload_n 0, 1) := by decide +kernel
theorem d_X7_node_15 : decode c_X7_node 15 = .ok (.iload_n 1, 1) := by decide +kernel
theorem d_X7_node_16 : decode c_X7_node 16 = .ok (.invokevirtual 80, 3) := by decide +kernel
theorem d_X7_node_19 : decode c_X7_node 19 = .ok (.istore 5, 2) := by decide +kernel
theorem d_X7_node_21 : decode c_X7_node 21 = .ok (.iconst 0, 1) := by decide +kernel
theorem d_X7_node_22 : decode c_X7_node 22 = .ok (.istore 6, 2) := by decide +kernel
theorem d_X7_node_24 : decode c_X7_node 24 = .ok (.iload_n 1, 1) := by decide +kernel
theorem d_X7_node_25 : decode c_X7_node 25 = .ok (.iconst 2, 1) := by decide +kernel
theorem d_X7_node_26 : decode c_X7_node 26 = .ok (.if_icmp .ne 9, 3) := by decide +kernel
theorem d_X7_node_29 : decode c_X7_node 29 = .ok (.iload_n 2, 1) := by decide +kernel
theorem d_X7_node_30 : decode c_X7_node 30 = .ok (.iconst 1, 1) := by decide +kernel
theorem d_X7_node_31 : decode c_X7_node 31 = .ok (.iadd, 1) := by decide +kernel
theorem d_X7_node_32 : decode c_X7_node 32 = .ok (.goto 4, 3) := by decide +kernel
theorem d_X7_node_35 : decode c_X7_node 35 = .ok (.iconst 0, 1) := by decide +kernel
theorem d_X7_node_36 : decode c_X7_node 36 = .ok (.istore 7, 2) := by decide +kernel
theorem d_X7_node_38 : decode c_X7_node 38 = .ok (.iload 5, 2) := by decide +kernel
theorem d_X7_node_40 : decode c_X7_node 40 = .ok (.iconst 1, 1) := by decide +kernel
theorem d_X7_node_41 : decode c_X7_node 41 = .ok (.iand, 1) := by decide +kernel
theorem d_X7_node_42 : decode c_X7_node 42 = .ok (.ifCond .eq 11, 3) := by decide +kernel
theorem d_X7_node_45 : decode c_X7_node 45 = .ok (.iload_n 2, 1) := by decide +kernel
theorem d_X7_node_46 : decode c_X7_node 46 = .ok (.ifCond .lt 7, 3) := by decide +kernel
theorem d_X7_node_49 : decode c_X7_node 49 = .ok (.iconst 1, 1) := by decide +kernel
theorem d_X7_node_50 : decode c_X7_node 50 = .ok (.goto 4, 3) := by decide +kernel
theorem d_X7_node_53 : decode c_X7_node 53 = .ok (.iconst 0, 1) := by decide +kernel
theorem d_X7_node_54 : decode c_X7_node 54 = .ok (.istore 8, 2) := by decide +kernel
theorem d_X7_node_56 : decode c_X7_node 56 = .ok (.iload 5, 2) := by decide +kernel
theorem d_X7_node_58 : decode c_X7_node 58 = .ok (.iconst 2, 1) := by decide +kernel
theorem d_X7_node_59 : decode c_X7_node 59 = .ok (.iand, 1) := by decide +kernel
theorem d_X7_node_60 : decode c_X7_node 60 = .ok (.ifCond .eq 7, 3) := by decide +kernel
theorem d_X7_node_63 : decode c_X7_node 63 = .ok (.iconst 1, 1) := by decide +kernel
theorem d_X7_node_64 : decode c_X7_node 64 = .ok (.goto 4, 3) := by decide +kernel
theorem d_X7_node_67 : decode c_X7_node 67 = .ok (.iconst 0, 1) := by decide +kernel
theorem d_X7_node_68 : decode c_X7_node 68 = .ok (.istore 9, 2) := by decide +kernel
theorem d_X7_node_70 : decode c_X7_node 70 = .ok (.iload 5, 2) := by decide +kernel
theorem d_X7_node_72 : decode c_X7_node 72 = .ok (.iconst 4, 1) := by decide +kernel
theorem d_X7_node_73 : decode c_X7_node 73 = .ok (.iand, 1) := by decide +kernel
theorem d_X7_node_74 : decode c_X7_node 74 = .ok (.ifCond .eq 7, 3) := by decide +kernel
theorem d_X7_node_77 : decode c_X7_node 77 = .ok (.iconst 1, 1) := by decide +kernel
theorem d_X7_node_78 : decode c_X7_node 78 = .ok (.goto 4, 3) := by decide +kernel
theorem d_X7_node_81 : decode c_X7_node 81 = .ok (.iconst 0, 1) := by decide +kernel
theorem d_X7_node_82 : decode c_X7_node 82 = .ok (.istore 10, 2) := by decide +kernel
theorem d_X7_node_84 : decode c_X7_node 84 = .ok (.aload_n 0, 1) := by decide +kernel
theorem d_X7_node_85 : decode c_X7_node 85 = .ok (.iload 6, 2) := by decide +kernel
theorem d_X7_node_87 : decode c_X7_node 87 = .ok (.iload 8, 2) := by decide +kernel
theorem d_X7_node_89 : decode c_X7_node 89 = .ok (.iload 8, 2) := by decide +kernel
theorem d_X7_node_91 : decode c_X7_node 91 = .ok (.ifCond .eq 12, 3) := by decide +kernel
theorem d_X7_node_94 : decode c_X7_node 94 = .ok (.aload_n 0, 1) := by decide +kernel
theorem d_X7_node_95 : decode c_X7_node 95 = .ok (.getfield 29, 3) := by decide +kernel
theorem d_X7_node_98 : decode c_X7_node 98 = .ok (.iload_n 2, 1) := by decide +kernel
theorem d_X7_node_99 : decode c_X7_node 99 = .ok (.iaload, 1) := by decide +kernel
theorem d_X7_node_100 : decode c_X7_node 100 = .ok (.goto 4, 3) := by decide +kernel
theorem d_X7_node_103 : decode c_X7_node 103 = .ok (.iconst 0, 1) := by decide +kernel
theorem d_X7_node_104 : decode c_X7_node 104 = .ok (.invokevirtual 92, 3) := by decide +kernel
theorem d_X7_node_107 : decode c_X7_node 107 = .ok (.istore 6, 2) := by decide +kernel
theorem d_X7_node_109 : decode c_X7_node 109 = .ok (.aload_n 0, 1) := by decide +kernel
theorem d_X7_node_110 : decode c_X7_node 110 = .ok (.iload 6, 2) := by decide +kernel
theorem d_X7_node_112 : decode c_X7_node 112 = .ok (.iload 9, 2) := by decide +kernel
theorem d_X7_node_114 : decode c_X7_node 114 = .ok (.iload 9, 2) := by decide +kernel
theorem d_X7_node_116 : decode c_X7_node 116 = .ok (.ifCond .eq 12, 3) := by decide +kernel
theorem d_X7_node_119 : decode c_X7_node 119 = .ok (.aload_n 0, 1) := by decide +kernel
theorem d_X7_node_120 : decode c_X7_node 120 = .ok (.getfield 29, 3) := by decide +kernel
theorem d_X7_node_123 : decode c_X7_node 123 = .ok (.iload_n 3, 1) := by decide +kernel
theorem d_X7_node_124 : decode c_X7_node 124 = .ok (.iaload, 1) := by decide +kernel
theorem d_X7_node_125 : decode c_X7_node 125 = .ok (.goto 4, 3) := by decide +kernel
theorem d_X7_node_128 : decode c_X7_node 128 = .ok (.iconst 0, 1) := by decide +kernel
theorem d_X7_node_129 : decode c_X7_node 129 = .ok (.invokevirtual 92, 3) := by decide +kernel
theorem d_X7_node_132 : decode c_X7_node 132 = .ok (.istore 6, 2) := by decide +kernel
theorem d_X7_node_134 : decode c_X7_node 134 = .ok (.aload_n 0, 1) := by decide +kernel
theorem d_X7_node_135 : decode c_X7_node 135 = .ok (.iload 6, 2) := by decide +kernel
theorem d_X7_node_137 : decode c_X7_node 137 = .ok (.iload 10, 2) := by decide +kernel
theorem d_X7_node_139 : decode c_X7_node 139 = .ok (.iload 10, 2) := by decide +kernel
theorem d_X7_node_141 : decode c_X7_node 141 = .ok (.ifCond .eq 13, 3) := by decide +kernel
theorem d_X7_node_144 : decode c_X7_node 144 = .ok (.aload_n 0, 1) := by decide +kernel
theorem d_X7_node_145 : decode c_X7_node 145 = .ok (.getfield 29, 3) := by decide +kernel
theorem d_X7_node_148 : decode c_X7_node 148 = .ok (.iload 4, 2) := by decide +kernel
theorem d_X7_node_150 : decode c_X7_node 150 = .ok (.iaload, 1) := by decide +kernel
theorem d_X7_node_151 : decode c_X7_node 151 = .ok (.goto 4, 3) := by decide +kernel
theorem d_X7_node_154 : decode c_X7_node 154 = .ok (.iconst 0, 1) := by decide +kernel
theorem d_X7_node_155 : decode c_X7_node 155 = .ok (.invokevirtual 92, 3) := by decide +kernel
theorem d_X7_node_158 : decode c_X7_node 158 = .ok (.istore 6, 2) := by decide +kernel
theorem d_X7_node_160 : decode c_X7_node 160 = .ok (.aload_n 0, 1) := by decide +kernel
theorem d_X7_node_161 : decode c_X7_node 161 = .ok (.iload 7, 2) := by decide +kernel
theorem d_X7_node_163 : decode c_X7_node 163 = .ok (.iload 8, 2) := by decide +kernel
theorem d_X7_node_165 : decode c_X7_node 165 = .ok (.iload 8, 2) := by decide +kernel
theorem d_X7_node_167 : decode c_X7_node 167 = .ok (.ifCond .eq 12, 3) := by decide +kernel
theorem d_X7_node_170 : decode c_X7_node 170 = .ok (.aload_n 0, 1) := by decide +kernel
theorem d_X7_node_171 : decode c_X7_node 171 = .ok (.getfield 32, 3) := by decide +kernel
theorem d_X7_node_174 : decode c_X7_node 174 = .ok (.iload_n 2, 1) := by decide +kernel
theorem d_X7_node_175 : decode c_X7_node 175 = .ok (.iaload, 1) := by decide +kernel
theorem d_X7_node_176 : decode c_X7_node 176 = .ok (.goto 4, 3) := by decide +kernel
theorem d_X7_node_179 : decode c_X7_node 179 = .ok (.iconst 0, 1) := by decide +kernel
theorem d_X7_node_180 : decode c_X7_node 180 = .ok (.invokevirtual 92, 3) := by decide +kernel
theorem d_X7_node_183 : decode c_X7_node 183 = .ok (.istore 7, 2) := by decide +kernel
theorem d_X7_node_185 : decode c_X7_node 185 = .ok (.aload_n 0, 1) := by decide +kernel
theorem d_X7_node_186 : decode c_X7_node 186 = .ok (.iload 7, 2) := by decide +kernel
theorem d_X7_node_188 : decode c_X7_node 188 = .ok (.iload 9, 2) := by decide +kernel
theorem d_X7_node_190 : decode c_X7_node 190 = .ok (.iload 9, 2) := by decide +kernel
theorem d_X7_node_192 : decode c_X7_node 192 = .ok (.ifCond .eq 12, 3) := by decide +kernel
theorem d_X7_node_195 : decode c_X7_node 195 = .ok (.aload_n 0, 1) := by decide +kernel
theorem d_X7_node_196 : decode c_X7_node 196 = .ok (.getfield 32, 3) := by decide +kernel
theorem d_X7_node_199 : decode c_X7_node 199 = .ok (.iload_n 3, 1) := by decide +kernel
theorem d_X7_node_200 : decode c_X7_node 200 = .ok (.iaload, 1) := by decide +kernel
theorem d_X7_node_201 : decode c_X7_node 201 = .ok (.goto 4, 3) := by decide +kernel
theorem d_X7_node_204 : decode c_X7_node 204 = .ok (.iconst 0, 1) := by decide +kernel
theorem d_X7_node_205 : decode c_X7_node 205 = .ok (.invokevirtual 92, 3) := by decide +kernel
theorem d_X7_node_208 : decode c_X7_node 208 = .ok (.istore 7, 2) := by decide +kernel
theorem d_X7_node_210 : decode c_X7_node 210 = .ok (.aload_n 0, 1) := by decide +kernel
theorem d_X7_node_211 : decode c_X7_node 211 = .ok (.iload 7, 2) := by decide +kernel
theorem d_X7_node_213 : decode c_X7_node 213 = .ok (.iload 10, 2) := by decide +kernel
theorem d_X7_node_215 : decode c_X7_node 215 = .ok (.iload 10, 2) := by decide +kernel
theorem d_X7_node_217 : decode c_X7_node 217 = .ok (.ifCond .eq 13, 3) := by decide +kernel
theorem d_X7_node_220 : decode c_X7_node 220 = .ok (.aload_n 0, 1) := by decide +kernel
theorem d_X7_node_221 : decode c_X7_node 221 = .ok (.getfield 32, 3) := by decide +kernel
theorem d_X7_node_224 : decode c_X7_node 224 = .ok (.iload 4, 2) := by decide +kernel
theorem d_X7_node_226 : decode c_X7_node 226 = .ok (.iaload, 1) := by decide +kernel
theorem d_X7_node_227 : decode c_X7_node 227 = .ok (.goto 4, 3) := by decide +kernel
theorem d_X7_node_230 : decode c_X7_node 230 = .ok (.iconst 0, 1) := by decide +kernel
theorem d_X7_node_231 : decode c_X7_node 231 = .ok (.invokevirtual 92, 3) := by decide +kernel
theorem d_X7_node_234 : decode c_X7_node 234 = .ok (.istore 7, 2) := by decide +kernel
theorem d_X7_node_236 : decode c_X7_node 236 = .ok (.iload 6, 2) := by decide +kernel
theorem d_X7_node_238 : decode c_X7_node 238 = .ok (.bipush 10, 2) := by decide +kernel
theorem d_X7_node_240 : decode c_X7_node 240 = .ok (.if_icmp .ne 5, 3) := by decide +kernel
theorem d_X7_node_243 : decode c_X7_node 243 = .ok (.iconst (-1), 1) := by decide +kernel
theorem d_X7_node_244 : decode c_X7_node 244 = .ok (.ireturn, 1) := by decide +kernel
theorem d_X7_node_245 : decode c_X7_node 245 = .ok (.aload_n 0, 1) := by decide +kernel
theorem d_X7_node_246 : decode c_X7_node 246 = .ok (.getfield 7, 3) := by decide +kernel
theorem d_X7_node_249 : decode c_X7_node 249 = .ok (.bipush 70, 2) := by decide +kernel
theorem d_X7_node_251 : decode c_X7_node 251 = .ok (.if_icmp .ne 6, 3) := by decide +kernel
theorem d_X7_node_254 : decode c_X7_node 254 = .ok (.bipush (-2), 2) := by decide +kernel
theorem d_X7_node_256 : decode c_X7_node 256 = .ok (.ireturn, 1) := by decide +kernel
theorem d_X7_node_257 : decode c_X7_node 257 = .ok (.aload_n 0, 1) := by decide +kernel
theorem d_X7_node_258 : decode c_X7_node 258 = .ok (.getfield 16, 3) := by decide +kernel
theorem d_X7_node_261 : decode c_X7_node 261 = .ok (.aload_n 0, 1) := by decide +kernel
theorem d_X7_node_262 : decode c_X7_node 262 = .ok (.getfield 7, 3) := by decide +kernel
theorem d_X7_node_265 : decode c_X7_node 265 = .ok (.iload_n 1, 1) := by decide +kernel
theorem d_X7_node_266 : decode c_X7_node 266 = .ok (.iastore, 1) := by decide +kernel
theorem d_X7_node_267 : decode c_X7_node 267 = .ok (.aload_n 0, 1) := by decide +kernel
theorem d_X7_node_268 : decode c_X7_node 268 = .ok (.getfield 20, 3) := by decide +kernel
theorem d_X7_node_271 : decode c_X7_node 271 = .ok (.aload_n 0, 1) := by decide +kernel
theorem d_X7_node_272 : decode c_X7_node 272 = .ok (.getfield 7, 3) := by decide +kernel
theorem d_X7_node_275 : decode c_X7_node 275 = .ok (.iload_n 2, 1) := by decide +kernel
theorem d_X7_node_276 : decode c_X7_node 276 = .ok (.iastore, 1) := by decide +kernel
theorem d_X7_node_277 : decode c_X7_node 277 = .ok (.aload_n 0, 1) := by decide +kernel
theorem d_X7_node_278 : decode c_X7_node 278 = .ok (.getfield 23, 3) := by decide +kernel
theorem d_X7_node_281 : decode c_X7_node 281 = .ok (.aload_n 0, 1) := by decide +kernel
theorem d_X7_node_282 : decode c_X7_node 282 = .ok (.getfield 7, 3) := by decide +kernel
theorem d_X7_node_285 : decode c_X7_node 285 = .ok (.iload_n 3, 1) := by decide +kernel
theorem d_X7_node_286 : decode c_X7_node 286 = .ok (.iastore, 1) := by decide +kernel
theorem d_X7_node_287 : decode c_X7_node 287 = .ok (.aload_n 0, 1) := by decide +kernel
theorem d_X7_node_288 : decode c_X7_node 288 = .ok (.getfield 26, 3) := by decide +kernel
theorem d_X7_node_291 : decode c_X7_node 291 = .ok (.aload_n 0, 1) := by decide +kernel
theorem d_X7_node_292 : decode c_X7_node 292 = .ok (.getfield 7, 3) := by decide +kernel
theorem d_X7_node_295 : decode c_X7_node 295 = .ok (.iload 4, 2) := by decide +kernel
theorem d_X7_node_297 : decode c_X7_node 297 = .ok (.iastore, 1) := by decide +kernel
theorem d_X7_node_298 : decode c_X7_node 298 = .ok (.aload_n 0, 1) := by decide +kernel
theorem d_X7_node_299 : decode c_X7_node 299 = .ok (.getfield 29, 3) := by decide +kernel
theorem d_X7_node_302 : decode c_X7_node 302 = .ok (.aload_n 0, 1) := by decide +kernel
theorem d_X7_node_303 : decode c_X7_node 303 = .ok (.getfield 7, 3) := by decide +kernel
theorem d_X7_node_306 : decode c_X7_node 306 = .ok (.iload 6, 2) := by decide +kernel
theorem d_X7_node_308 : decode c_X7_node 308 = .ok (.iconst 1, 1) := by decide +kernel
theorem d_X7_node_309 : decode c_X7_node 309 = .ok (.iadd, 1) := by decide +kernel
theorem d_X7_node_310 : decode c_X7_node 310 = .ok (.iastore, 1) := by decide +kernel
theorem d_X7_node_311 : decode c_X7_node 311 = .ok (.aload_n 0, 1) := by decide +kernel
theorem d_X7_node_312 : decode c_X7_node 312 = .ok (.getfield 32, 3) := by decide +kernel
theorem d_X7_node_315 : decode c_X7_node 315 = .ok (.aload_n 0, 1) := by decide +kernel
theorem d_X7_node_316 : decode c_X7_node 316 = .ok (.getfield 7, 3) := by decide +kernel
theorem d_X7_node_319 : decode c_X7_node 319 = .ok (.iload 7, 2) := by decide +kernel
theorem d_X7_node_321 : decode c_X7_node 321 = .ok (.iastore, 1) := by decide +kernel
theorem d_X7_node_322 : decode c_X7_node 322 = .ok (.aload_n 0, 1) := by decide +kernel
theorem d_X7_node_323 : decode c_X7_node 323 = .ok (.dup, 1) := by decide +kernel
theorem d_X7_node_324 : decode c_X7_node 324 = .ok (.getfield 7, 3) := by decide +kernel
theorem d_X7_node_327 : decode c_X7_node 327 = .ok (.iconst 1, 1) := by decide +kernel
theorem d_X7_node_328 : decode c_X7_node 328 = .ok (.iadd, 1) := by decide +kernel
theorem d_X7_node_329 : decode c_X7_node 329 = .ok (.putfield 7, 3) := by decide +kernel
theorem d_X7_node_332 : decode c_X7_node 332 = .ok (.aload_n 0, 1) := by decide +kernel
theorem d_X7_node_333 : decode c_X7_node 333 = .ok (.getfield 7, 3) := by decide +kernel
theorem d_X7_node_336 : decode c_X7_node 336 = .ok (.iconst 1, 1) := by decide +kernel
theorem d_X7_node_337 : decode c_X7_node 337 = .ok (.isub, 1) := by decide +kernel
theorem d_X7_node_338 : decode c_X7_node 338 = .ok (.ireturn, 1) := by decide +kernel
theorem d_X7_define_0 : decode c_X7_define 0 = .ok (.aload_n 0, 1) := by decide +kernel
theorem d_X7_define_1 : decode c_X7_define 1 = .ok (.iload_n 1, 1) := by decide +kernel
theorem d_X7_define_2 : decode c_X7_define 2 = .ok (.iconst 0, 1) := by decide +kernel
theorem d_X7_define_3 : decode c_X7_define 3 = .ok (.bipush 7, 2) := by decide +kernel
theorem d_X7_define_5 : decode c_X7_define 5 = .ok (.invokevirtual 76, 3) := by decide +kernel
theorem d_X7_define_8 : decode c_X7_define 8 = .ok (.ifCond .ne 21, 3) := by decide +kernel
theorem d_X7_define_11 : decode c_X7_define 11 = .ok (.aload_n 0, 1) := by decide +kernel
theorem d_X7_define_12 : decode c_X7_define 12 = .ok (.iload_n 2, 1) := by decide +kernel
theorem d_X7_define_13 : decode c_X7_define 13 = .ok (.invokevirtual 84, 3) := by decide +kernel
theorem d_X7_define_16 : decode c_X7_define 16 = .ok (.ifCond .eq 13, 3) := by decide +kernel
theorem d_X7_define_19 : decode c_X7_define 19 = .ok (.aload_n 0, 1) := by decide +kernel
theorem d_X7_define_20 : decode c_X7_define 20 = .ok (.getfield 32, 3) := by decide +kernel
theorem d_X7_define_23 : decode c_X7_define 23 = .ok (.iload_n 2, 1) := by decide +kernel
theorem d_X7_define_24 : decode c_X7_define 24 = .ok (.iaload, 1) := by decide +kernel
theorem d_X7_define_25 : decode c_X7_define 25 = .ok (.iload_n 1, 1) := by decide +kernel
theorem d_X7_define_26 : decode c_X7_define 26 = .ok (.if_icmp .le 5, 3) := by decide +kernel
theorem d_X7_define_29 : decode c_X7_define 29 = .ok (.iconst (-1), 1) := by decide +kernel
theorem d_X7_define_30 : decode c_X7_define 30 = .ok (.ireturn, 1) := by decide +kernel
theorem d_X7_define_31 : decode c_X7_define 31 = .ok (.aload_n 0, 1) := by decide +kernel
theorem d_X7_define_32 : decode c_X7_define 32 = .ok (.getfield 35, 3) := by decide +kernel
theorem d_X7_define_35 : decode c_X7_define 35 = .ok (.iload_n 1, 1) := by decide +kernel
theorem d_X7_define_36 : decode c_X7_define 36 = .ok (.iload_n 2, 1) := by decide +kernel
theorem d_X7_define_37 : decode c_X7_define 37 = .ok (.iastore, 1) := by decide +kernel
theorem d_X7_define_38 : decode c_X7_define 38 = .ok (.iconst 0, 1) := by decide +kernel
theorem d_X7_define_39 : decode c_X7_define 39 = .ok (.ireturn, 1) := by decide +kernel
theorem d_X7_undefine_0 : decode c_X7_undefine 0 = .ok (.aload_n 0, 1) := by decide +kernel
theorem d_X7_undefine_1 : decode c_X7_undefine 1 = .ok (.iload_n 1, 1) := by decide +kernel
theorem d_X7_undefine_2 : decode c_X7_undefine 2 = .ok (.iconst 0, 1) := by decide +kernel
theorem d_X7_undefine_3 : decode c_X7_undefine 3 = .ok (.bipush 7, 2) := by decide +kernel
theorem d_X7_undefine_5 : decode c_X7_undefine 5 = .ok (.invokevirtual 76, 3) := by decide +kernel
theorem d_X7_undefine_8 : decode c_X7_undefine 8 = .ok (.ifCond .eq 5, 3) := by decide +kernel
theorem d_X7_undefine_11 : decode c_X7_undefine 11 = .ok (.iconst (-1), 1) := by decide +kernel
theorem d_X7_undefine_12 : decode c_X7_undefine 12 = .ok (.ireturn, 1) := by decide +kernel
theorem d_X7_undefine_13 : decode c_X7_undefine 13 = .ok (.aload_n 0, 1) := by decide +kernel
theorem d_X7_undefine_14 : decode c_X7_undefine 14 = .ok (.getfield 35, 3) := by decide +kernel
theorem d_X7_undefine_17 : decode c_X7_undefine 17 = .ok (.iload_n 1, 1) := by decide +kernel
theorem d_X7_undefine_18 : decode c_X7_undefine 18 = .ok (.iconst (-1), 1) := by decide +kernel
theorem d_X7_undefine_19 : decode c_X7_undefine 19 = .ok (.iastore, 1) := by decide +kernel
theorem d_X7_undefine_20 : decode c_X7_undefine 20 = .ok (.iconst 0, 1) := by decide +kernel
theorem d_X7_undefine_21 : decode c_X7_undefine 21 = .ok (.ireturn, 1) := by decide +kernel
theorem d_X7_step_0 : decode c_X7_step 0 = .ok (.aload_n 0, 1) := by decide +kernel
theorem d_X7_step_1 : decode c_X7_step 1 = .ok (.iload_n 1, 1) := by decide +kernel
theorem d_X7_step_2 : decode c_X7_step 2 = .ok (.iconst 0, 1) := by decide +kernel
theorem d_X7_step_3 : decode c_X7_step 3 = .ok (.iconst 1, 1) := by decide +kernel
theorem d_X7_step_4 : decode c_X7_step 4 = .ok (.invokevirtual 76, 3) := by decide +kernel
theorem d_X7_step_7 : decode c_X7_step 7 = .ok (.ifCond .ne 50, 3) := by decide +kernel
theorem d_X7_step_10 : decode c_X7_step 10 = .ok (.iload_n 2, 1) := by decide +kernel
theorem d_X7_step_11 : decode c_X7_step 11 = .ok (.iconst 1, 1) := by decide +kernel
theorem d_X7_step_12 : decode c_X7_step 12 = .ok (.if_icmp .lt 45, 3) := by decide +kernel
theorem d_X7_step_15 : decode c_X7_step 15 = .ok (.aload_n 0, 1) := by decide +kernel
theorem d_X7_step_16 : decode c_X7_step 16 = .ok (.iload_n 3, 1) := by decide +kernel
theorem d_X7_step_17 : decode c_X7_step 17 = .ok (.iconst 0, 1) := by decide +kernel
theorem d_X7_step_18 : decode c_X7_step 18 = .ok (.sipush 1000, 3) := by decide +kernel
theorem d_X7_step_21 : decode c_X7_step 21 = .ok (.invokevirtual 76, 3) := by decide +kernel
theorem d_X7_step_24 : decode c_X7_step 24 = .ok (.ifCond .ne 33, 3) := by decide +kernel
theorem d_X7_step_27 : decode c_X7_step 27 = .ok (.aload_n 0, 1) := by decide +kernel
theorem d_X7_step_28 : decode c_X7_step 28 = .ok (.getfield 38, 3) := by decide +kernel
theorem d_X7_step_31 : decode c_X7_step 31 = .ok (.iload_n 1, 1) := by decide +kernel
theorem d_X7_step_32 : decode c_X7_step 32 = .ok (.iaload, 1) := by decide +kernel
theorem d_X7_step_33 : decode c_X7_step 33 = .ok (.ifCond .le 26, 3) := by decide +kernel
theorem d_X7_step_36 : decode c_X7_step 36 = .ok (.iload_n 2, 1) := by decide +kernel
theorem d_X7_step_37 : decode c_X7_step 37 = .ok (.aload_n 0, 1) := by decide +kernel
theorem d_X7_step_38 : decode c_X7_step 38 = .ok (.getfield 41, 3) := by decide +kernel
theorem d_X7_step_41 : decode c_X7_step 41 = .ok (.iload_n 1, 1) := by decide +kernel
theorem d_X7_step_42 : decode c_X7_step 42 = .ok (.iconst 5, 1) := by decide +kernel
theorem d_X7_step_43 : decode c_X7_step 43 = .ok (.imul, 1) := by decide +kernel
theorem d_X7_step_44 : decode c_X7_step 44 = .ok (.aload_n 0, 1) := by decide +kernel
theorem d_X7_step_45 : decode c_X7_step 45 = .ok (.getfield 38, 3) := by decide +kernel
theorem d_X7_step_48 : decode c_X7_step 48 = .ok (.iload_n 1, 1) := by decide +kernel
theorem d_X7_step_49 : decode c_X7_step 49 = .ok (.iaload, 1) := by decide +kernel
theorem d_X7_step_50 : decode c_X7_step 50 = .ok (.iadd, 1) := by decide +kernel
theorem d_X7_step_51 : decode c_X7_step 51 = .ok (.iconst 1, 1) := by decide +kernel
theorem d_X7_step_52 : decode c_X7_step 52 = .ok (.isub, 1) := by decide +kernel
theorem d_X7_step_53 : decode c_X7_step 53 = .ok (.iaload, 1) := by decide +kernel
theorem d_X7_step_54 : decode c_X7_step 54 = .ok (.if_icmp .gt 5, 3) := by decide +kernel
theorem d_X7_step_57 : decode c_X7_step 57 = .ok (.iconst (-1), 1) := by decide +kernel
theorem d_X7_step_58 : decode c_X7_step 58 = .ok (.ireturn, 1) := by decide +kernel
theorem d_X7_step_59 : decode c_X7_step 59 = .ok (.aload_n 0, 1) := by decide +kernel
theorem d_X7_step_60 : decode c_X7_step 60 = .ok (.getfield 38, 3) := by decide +kernel
theorem d_X7_step_63 : decode c_X7_step 63 = .ok (.iload_n 1, 1) := by decide +kernel
theorem d_X7_step_64 : decode c_X7_step 64 = .ok (.iaload, 1) := by decide +kernel
theorem d_X7_step_65 : decode c_X7_step 65 = .ok (.iconst 5, 1) := by decide +kernel
theorem d_X7_step_66 : decode c_X7_step 66 = .ok (.if_icmp .ne 6, 3) := by decide +kernel
theorem d_X7_step_69 : decode c_X7_step 69 = .ok (.bipush (-2), 2) := by decide +kernel
theorem d_X7_step_71 : decode c_X7_step 71 = .ok (.ireturn, 1) := by decide +kernel
theorem d_X7_step_72 : decode c_X7_step 72 = .ok (.aload_n 0, 1) := by decide +kernel
theorem d_X7_step_73 : decode c_X7_step 73 = .ok (.getfield 41, 3) := by decide +kernel
theorem d_X7_step_76 : decode c_X7_step 76 = .ok (.iload_n 1, 1) := by decide +kernel
theorem d_X7_step_77 : decode c_X7_step 77 = .ok (.iconst 5, 1) := by decide +kernel
theorem d_X7_step_78 : decode c_X7_step 78 = .ok (.imul, 1) := by decide +kernel
theorem d_X7_step_79 : decode c_X7_step 79 = .ok (.aload_n 0, 1) := by decide +kernel
theorem d_X7_step_80 : decode c_X7_step 80 = .ok (.getfield 38, 3) := by decide +kernel
theorem d_X7_step_83 : decode c_X7_step 83 = .ok (.iload_n 1, 1) := by decide +kernel
theorem d_X7_step_84 : decode c_X7_step 84 = .ok (.iaload, 1) := by decide +kernel
theorem d_X7_step_85 : decode c_X7_step 85 = .ok (.iadd, 1) := by decide +kernel
theorem d_X7_step_86 : decode c_X7_step 86 = .ok (.iload_n 2, 1) := by decide +kernel
theorem d_X7_step_87 : decode c_X7_step 87 = .ok (.iastore, 1) := by decide +kernel
theorem d_X7_step_88 : decode c_X7_step 88 = .ok (.aload_n 0, 1) := by decide +kernel
theorem d_X7_step_89 : decode c_X7_step 89 = .ok (.getfield 44, 3) := by decide +kernel
theorem d_X7_step_92 : decode c_X7_step 92 = .ok (.iload_n 1, 1) := by decide +kernel
theorem d_X7_step_93 : decode c_X7_step 93 = .ok (.iconst 5, 1) := by decide +kernel
theorem d_X7_step_94 : decode c_X7_step 94 = .ok (.imul, 1) := by decide +kernel
theorem d_X7_step_95 : decode c_X7_step 95 = .ok (.aload_n 0, 1) := by decide +kernel
theorem d_X7_step_96 : decode c_X7_step 96 = .ok (.getfield 38, 3) := by decide +kernel
theorem d_X7_step_99 : decode c_X7_step 99 = .ok (.iload_n 1, 1) := by decide +kernel
theorem d_X7_step_100 : decode c_X7_step 100 = .ok (.iaload, 1) := by decide +kernel
theorem d_X7_step_101 : decode c_X7_step 101 = .ok (.iadd, 1) := by decide +kernel
theorem d_X7_step_102 : decode c_X7_step 102 = .ok (.iload_n 3, 1) := by decide +kernel
theorem d_X7_step_103 : decode c_X7_step 103 = .ok (.iastore, 1) := by decide +kernel
theorem d_X7_step_104 : decode c_X7_step 104 = .ok (.aload_n 0, 1) := by decide +kernel
theorem d_X7_step_105 : decode c_X7_step 105 = .ok (.getfield 38, 3) := by decide +kernel
theorem d_X7_step_108 : decode c_X7_step 108 = .ok (.iload_n 1, 1) := by decide +kernel
theorem d_X7_step_109 : decode c_X7_step 109 = .ok (.dup2, 1) := by decide +kernel
theorem d_X7_step_110 : decode c_X7_step 110 = .ok (.iaload, 1) := by decide +kernel
theorem d_X7_step_111 : decode c_X7_step 111 = .ok (.iconst 1, 1) := by decide +kernel
theorem d_X7_step_112 : decode c_X7_step 112 = .ok (.iadd, 1) := by decide +kernel
theorem d_X7_step_113 : decode c_X7_step 113 = .ok (.iastore, 1) := by decide +kernel
theorem d_X7_step_114 : decode c_X7_step 114 = .ok (.aload_n 0, 1) := by decide +kernel
theorem d_X7_step_115 : decode c_X7_step 115 = .ok (.getfield 38, 3) := by decide +kernel
theorem d_X7_step_118 : decode c_X7_step 118 = .ok (.iload_n 1, 1) := by decide +kernel
theorem d_X7_step_119 : decode c_X7_step 119 = .ok (.iaload, 1) := by decide +kernel
theorem d_X7_step_120 : decode c_X7_step 120 = .ok (.ireturn, 1) := by decide +kernel
theorem d_X7_clear_0 : decode c_X7_clear 0 = .ok (.aload_n 0, 1) := by decide +kernel
theorem d_X7_clear_1 : decode c_X7_clear 1 = .ok (.iload_n 1, 1) := by decide +kernel
theorem d_X7_clear_2 : decode c_X7_clear 2 = .ok (.iconst 0, 1) := by decide +kernel
theorem d_X7_clear_3 : decode c_X7_clear 3 = .ok (.iconst 1, 1) := by decide +kernel
theorem d_X7_clear_4 : decode c_X7_clear 4 = .ok (.invokevirtual 76, 3) := by decide +kernel
theorem d_X7_clear_7 : decode c_X7_clear 7 = .ok (.ifCond .eq 5, 3) := by decide +kernel
theorem d_X7_clear_10 : decode c_X7_clear 10 = .ok (.iconst (-1), 1) := by decide +kernel
theorem d_X7_clear_11 : decode c_X7_clear 11 = .ok (.ireturn, 1) := by decide +kernel
theorem d_X7_clear_12 : decode c_X7_clear 12 = .ok (.aload_n 0, 1) := by decide +kernel
theorem d_X7_clear_13 : decode c_X7_clear 13 = .ok (.getfield 38, 3) := by decide +kernel
theorem d_X7_clear_16 : decode c_X7_clear 16 = .ok (.iload_n 1, 1) := by decide +kernel
theorem d_X7_clear_17 : decode c_X7_clear 17 = .ok (.iaload, 1) := by decide +kernel
theorem d_X7_clear_18 : decode c_X7_clear 18 = .ok (.istore_n 2, 1) := by decide +kernel
theorem d_X7_clear_19 : decode c_X7_clear 19 = .ok (.aload_n 0, 1) := by decide +kernel
theorem d_X7_clear_20 : decode c_X7_clear 20 = .ok (.getfield 38, 3) := by decide +kernel
theorem d_X7_clear_23 : decode c_X7_clear 23 = .ok (.iload_n 1, 1) := by decide +kernel
theorem d_X7_clear_24 : decode c_X7_clear 24 = .ok (.iconst 0, 1) := by decide +kernel
theorem d_X7_clear_25 : decode c_X7_clear 25 = .ok (.iastore, 1) := by decide +kernel
theorem d_X7_clear_26 : decode c_X7_clear 26 = .ok (.iload_n 2, 1) := by decide +kernel
theorem d_X7_clear_27 : decode c_X7_clear 27 = .ok (.ireturn, 1) := by decide +kernel
theorem d_X7_input_0 : decode c_X7_input 0 = .ok (.aload_n 0, 1) := by decide +kernel
theorem d_X7_input_1 : decode c_X7_input 1 = .ok (.iload_n 1, 1) := by decide +kernel
theorem d_X7_input_2 : decode c_X7_input 2 = .ok (.iconst 0, 1) := by decide +kernel
theorem d_X7_input_3 : decode c_X7_input 3 = .ok (.iconst 5, 1) := by decide +kernel
theorem d_X7_input_4 : decode c_X7_input 4 = .ok (.invokevirtual 76, 3) := by decide +kernel
theorem d_X7_input_7 : decode c_X7_input 7 = .ok (.ifCond .ne 14, 3) := by decide +kernel
theorem d_X7_input_10 : decode c_X7_input 10 = .ok (.aload_n 0, 1) := by decide +kernel
theorem d_X7_input_11 : decode c_X7_input 11 = .ok (.iload_n 2, 1) := by decide +kernel
theorem d_X7_input_12 : decode c_X7_input 12 = .ok (.iconst 0, 1) := by decide +kernel
theorem d_X7_input_13 : decode c_X7_input 13 = .ok (.bipush 7, 2) := by decide +kernel
theorem d_X7_input_15 : decode c_X7_input 15 = .ok (.invokevirtual 76, 3) := by decide +kernel
theorem d_X7_input_18 : decode c_X7_input 18 = .ok (.ifCond .eq 5, 3) := by decide +kernel
theorem d_X7_input_21 : decode c_X7_input 21 = .ok (.iconst (-1), 1) := by decide +kernel
theorem d_X7_input_22 : decode c_X7_input 22 = .ok (.ireturn, 1) := by decide +kernel
theorem d_X7_input_23 : decode c_X7_input 23 = .ok (.aload_n 0, 1) := by decide +kernel
theorem d_X7_input_24 : decode c_X7_input 24 = .ok (.getfield 47, 3) := by decide +kernel
theorem d_X7_input_27 : decode c_X7_input 27 = .ok (.iload_n 1, 1) := by decide +kernel
theorem d_X7_input_28 : decode c_X7_input 28 = .ok (.bipush 8, 2) := by decide +kernel
theorem d_X7_input_30 : decode c_X7_input 30 = .ok (.imul, 1) := by decide +kernel
theorem d_X7_input_31 : decode c_X7_input 31 = .ok (.iload_n 2, 1) := by decide +kernel
theorem d_X7_input_32 : decode c_X7_input 32 = .ok (.iadd, 1) := by decide +kernel
theorem d_X7_input_33 : decode c_X7_input 33 = .ok (.iload_n 3, 1) := by decide +kernel
theorem d_X7_input_34 : decode c_X7_input 34 = .ok (.iastore, 1) := by decide +kernel
theorem d_X7_input_35 : decode c_X7_input 35 = .ok (.iconst 0, 1) := by decide +kernel
theorem d_X7_input_36 : decode c_X7_input 36 = .ok (.ireturn, 1) := by decide +kernel
theorem d_X7_activate_0 : decode c_X7_activate 0 = .ok (.aload_n 0, 1) := by decide +kernel
theorem d_X7_activate_1 : decode c_X7_activate 1 = .ok (.iload_n 1, 1) := by decide +kernel
theorem d_X7_activate_2 : decode c_X7_activate 2 = .ok (.iconst 0, 1) := by decide +kernel
theorem d_X7_activate_3 : decode c_X7_activate 3 = .ok (.iconst 5, 1) := by decide +kernel
theorem d_X7_activate_4 : decode c_X7_activate 4 = .ok (.invokevirtual 76, 3) := by decide +kernel
theorem d_X7_activate_7 : decode c_X7_activate 7 = .ok (.ifCond .eq 5, 3) := by decide +kernel
theorem d_X7_activate_10 : decode c_X7_activate 10 = .ok (.iconst (-1), 1) := by decide +kernel
theorem d_X7_activate_11 : decode c_X7_activate 11 = .ok (.ireturn, 1) := by decide +kernel
theorem d_X7_activate_12 : decode c_X7_activate 12 = .ok (.aload_n 0, 1) := by decide +kernel
theorem d_X7_activate_13 : decode c_X7_activate 13 = .ok (.getfield 50, 3) := by decide +kernel
theorem d_X7_activate_16 : decode c_X7_activate 16 = .ok (.iload_n 1, 1) := by decide +kernel
theorem d_X7_activate_17 : decode c_X7_activate 17 = .ok (.iload_n 2, 1) := by decide +kernel
theorem d_X7_activate_18 : decode c_X7_activate 18 = .ok (.bastore, 1) := by decide +kernel
theorem d_X7_activate_19 : decode c_X7_activate 19 = .ok (.iconst 0, 1) := by decide +kernel
theorem d_X7_activate_20 : decode c_X7_activate 20 = .ok (.ireturn, 1) := by decide +kernel
theorem d_X7_whole_0 : decode c_X7_whole 0 = .ok (.lload_n 1, 1) := by decide +kernel
theorem d_X7_whole_1 : decode c_X7_whole 1 = .ok (.ldc2_w 96, 3) := by decide +kernel
theorem d_X7_whole_4 : decode c_X7_whole 4 = .ok (.lcmp, 1) := by decide +kernel
theorem d_X7_whole_5 : decode c_X7_whole 5 = .ok (.ifCond .lt 15, 3) := by decide +kernel
theorem d_X7_whole_8 : decode c_X7_whole 8 = .ok (.lload_n 1, 1) := by decide +kernel
theorem d_X7_whole_9 : decode c_X7_whole 9 = .ok (.ldc2_w 98, 3) := by decide +kernel
theorem d_X7_whole_12 : decode c_X7_whole 12 = .ok (.lcmp, 1) := by decide +kernel
theorem d_X7_whole_13 : decode c_X7_whole 13 = .ok (.ifCond .gt 7, 3) := by decide +kernel
theorem d_X7_whole_16 : decode c_X7_whole 16 = .ok (.iconst 1, 1) := by decide +kernel
theorem d_X7_whole_17 : decode c_X7_whole 17 = .ok (.goto 4, 3) := by decide +kernel
theorem d_X7_whole_20 : decode c_X7_whole 20 = .ok (.iconst 0, 1) := by decide +kernel
theorem d_X7_whole_21 : decode c_X7_whole 21 = .ok (.ireturn, 1) := by decide +kernel
theorem d_X7_ranged_0 : decode c_X7_ranged 0 = .ok (.aload_n 0, 1) := by decide +kernel
theorem d_X7_ranged_1 : decode c_X7_ranged 1 = .ok (.lload_n 1, 1) := by decide +kernel
theorem d_X7_ranged_2 : decode c_X7_ranged 2 = .ok (.invokevirtual 100, 3) := by decide +kernel
theorem d_X7_ranged_5 : decode c_X7_ranged 5 = .ok (.ifCond .eq 7, 3) := by decide +kernel
theorem d_X7_ranged_8 : decode c_X7_ranged 8 = .ok (.lload_n 1, 1) := by decide +kernel
theorem d_X7_ranged_9 : decode c_X7_ranged 9 = .ok (.goto 6, 3) := by decide +kernel
theorem d_X7_ranged_12 : decode c_X7_ranged 12 = .ok (.ldc2_w 104, 3) := by decide +kernel
theorem d_X7_ranged_15 : decode c_X7_ranged 15 = .ok (.lreturn, 1) := by decide +kernel
theorem d_X7_rounded_0 : decode c_X7_rounded 0 = .ok (.lload_n 1, 1) := by decide +kernel
theorem d_X7_rounded_1 : decode c_X7_rounded 1 = .ok (.lconst 0, 1) := by decide +kernel
theorem d_X7_rounded_2 : decode c_X7_rounded 2 = .ok (.lcmp, 1) := by decide +kernel
theorem d_X7_rounded_3 : decode c_X7_rounded 3 = .ok (.ifCond .ge 8, 3) := by decide +kernel
theorem d_X7_rounded_6 : decode c_X7_rounded 6 = .ok (.lload_n 1, 1) := by decide +kernel
theorem d_X7_rounded_7 : decode c_X7_rounded 7 = .ok (.lneg, 1) := by decide +kernel
theorem d_X7_rounded_8 : decode c_X7_rounded 8 = .ok (.goto 4, 3) := by decide +kernel
theorem d_X7_rounded_11 : decode c_X7_rounded 11 = .ok (.lload_n 1, 1) := by decide +kernel
theorem d_X7_rounded_12 : decode c_X7_rounded 12 = .ok (.lstore 5, 2) := by decide +kernel
theorem d_X7_rounded_14 : decode c_X7_rounded 14 = .ok (.lload_n 3, 1) := by decide +kernel
theorem d_X7_rounded_15 : decode c_X7_rounded 15 = .ok (.lconst 0, 1) := by decide +kernel
theorem d_X7_rounded_16 : decode c_X7_rounded 16 = .ok (.lcmp, 1) := by decide +kernel
theorem d_X7_rounded_17 : decode c_X7_rounded 17 = .ok (.ifCond .ge 8, 3) := by decide +kernel
theorem d_X7_rounded_20 : decode c_X7_rounded 20 = .ok (.lload_n 3, 1) := by decide +kernel
theorem d_X7_rounded_21 : decode c_X7_rounded 21 = .ok (.lneg, 1) := by decide +kernel
theorem d_X7_rounded_22 : decode c_X7_rounded 22 = .ok (.goto 4, 3) := by decide +kernel
theorem d_X7_rounded_25 : decode c_X7_rounded 25 = .ok (.lload_n 3, 1) := by decide +kernel
theorem d_X7_rounded_26 : decode c_X7_rounded 26 = .ok (.lstore 7, 2) := by decide +kernel
theorem d_X7_rounded_28 : decode c_X7_rounded 28 = .ok (.lload 5, 2) := by decide +kernel
theorem d_X7_rounded_30 : decode c_X7_rounded 30 = .ok (.lload 7, 2) := by decide +kernel
theorem d_X7_rounded_32 : decode c_X7_rounded 32 = .ok (.ldiv, 1) := by decide +kernel
theorem d_X7_rounded_33 : decode c_X7_rounded 33 = .ok (.lstore 9, 2) := by decide +kernel
theorem d_X7_rounded_35 : decode c_X7_rounded 35 = .ok (.lload 5, 2) := by decide +kernel
theorem d_X7_rounded_37 : decode c_X7_rounded 37 = .ok (.lload 7, 2) := by decide +kernel
theorem d_X7_rounded_39 : decode c_X7_rounded 39 = .ok (.lrem, 1) := by decide +kernel
theorem d_X7_rounded_40 : decode c_X7_rounded 40 = .ok (.lstore 11, 2) := by decide +kernel
theorem d_X7_rounded_42 : decode c_X7_rounded 42 = .ok (.lload 11, 2) := by decide +kernel
theorem d_X7_rounded_44 : decode c_X7_rounded 44 = .ok (.lload 7, 2) := by decide +kernel
theorem d_X7_rounded_46 : decode c_X7_rounded 46 = .ok (.lload 11, 2) := by decide +kernel
theorem d_X7_rounded_48 : decode c_X7_rounded 48 = .ok (.lsub, 1) := by decide +kernel
theorem d_X7_rounded_49 : decode c_X7_rounded 49 = .ok (.lcmp, 1) := by decide +kernel
theorem d_X7_rounded_50 : decode c_X7_rounded 50 = .ok (.ifCond .lt 9, 3) := by decide +kernel
theorem d_X7_rounded_53 : decode c_X7_rounded 53 = .ok (.lload 9, 2) := by decide +kernel
theorem d_X7_rounded_55 : decode c_X7_rounded 55 = .ok (.lconst 1, 1) := by decide +kernel
theorem d_X7_rounded_56 : decode c_X7_rounded 56 = .ok (.ladd, 1) := by decide +kernel
theorem d_X7_rounded_57 : decode c_X7_rounded 57 = .ok (.lstore 9, 2) := by decide +kernel
theorem d_X7_rounded_59 : decode c_X7_rounded 59 = .ok (.lload_n 1, 1) := by decide +kernel
theorem d_X7_rounded_60 : decode c_X7_rounded 60 = .ok (.lconst 0, 1) := by decide +kernel
theorem d_X7_rounded_61 : decode c_X7_rounded 61 = .ok (.lcmp, 1) := by decide +kernel
theorem d_X7_rounded_62 : decode c_X7_rounded 62 = .ok (.ifCond .ge 7, 3) := by decide +kernel
theorem d_X7_rounded_65 : decode c_X7_rounded 65 = .ok (.iconst 1, 1) := by decide +kernel
theorem d_X7_rounded_66 : decode c_X7_rounded 66 = .ok (.goto 4, 3) := by decide +kernel
theorem d_X7_rounded_69 : decode c_X7_rounded 69 = .ok (.iconst 0, 1) := by decide +kernel
theorem d_X7_rounded_70 : decode c_X7_rounded 70 = .ok (.lload_n 3, 1) := by decide +kernel
theorem d_X7_rounded_71 : decode c_X7_rounded 71 = .ok (.lconst 0, 1) := by decide +kernel
theorem d_X7_rounded_72 : decode c_X7_rounded 72 = .ok (.lcmp, 1) := by decide +kernel
theorem d_X7_rounded_73 : decode c_X7_rounded 73 = .ok (.ifCond .ge 7, 3) := by decide +kernel
theorem d_X7_rounded_76 : decode c_X7_rounded 76 = .ok (.iconst 1, 1) := by decide +kernel
theorem d_X7_rounded_77 : decode c_X7_rounded 77 = .ok (.goto 4, 3) := by decide +kernel
theorem d_X7_rounded_80 : decode c_X7_rounded 80 = .ok (.iconst 0, 1) := by decide +kernel
theorem d_X7_rounded_81 : decode c_X7_rounded 81 = .ok (.if_icmp .eq 9, 3) := by decide +kernel
theorem d_X7_rounded_84 : decode c_X7_rounded 84 = .ok (.lload 9, 2) := by decide +kernel
theorem d_X7_rounded_86 : decode c_X7_rounded 86 = .ok (.lneg, 1) := by decide +kernel
theorem d_X7_rounded_87 : decode c_X7_rounded 87 = .ok (.goto 5, 3) := by decide +kernel
theorem d_X7_rounded_90 : decode c_X7_rounded 90 = .ok (.lload 9, 2) := by decide +kernel
theorem d_X7_rounded_92 : decode c_X7_rounded 92 = .ok (.lreturn, 1) := by decide +kernel
theorem d_X7_stops_0 : decode c_X7_stops 0 = .ok (.lload_n 1, 1) := by decide +kernel
theorem d_X7_stops_1 : decode c_X7_stops 1 = .ok (.ldc2_w 106, 3) := by decide +kernel
theorem d_X7_stops_4 : decode c_X7_stops 4 = .ok (.lcmp, 1) := by decide +kernel
theorem d_X7_stops_5 : decode c_X7_stops 5 = .ok (.ifCond .ne 9, 3) := by decide +kernel
theorem d_X7_stops_8 : decode c_X7_stops 8 = .ok (.ldc2_w 108, 3) := by decide +kernel
theorem d_X7_stops_11 : decode c_X7_stops 11 = .ok (.goto 16, 3) := by decide +kernel
theorem d_X7_stops_14 : decode c_X7_stops 14 = .ok (.lload_n 1, 1) := by decide +kernel
theorem d_X7_stops_15 : decode c_X7_stops 15 = .ok (.ldc2_w 110, 3) := by decide +kernel
theorem d_X7_stops_18 : decode c_X7_stops 18 = .ok (.lcmp, 1) := by decide +kernel
theorem d_X7_stops_19 : decode c_X7_stops 19 = .ok (.ifCond .le 7, 3) := by decide +kernel
theorem d_X7_stops_22 : decode c_X7_stops 22 = .ok (.lload_n 1, 1) := by decide +kernel
theorem d_X7_stops_23 : decode c_X7_stops 23 = .ok (.goto 4, 3) := by decide +kernel
theorem d_X7_stops_26 : decode c_X7_stops 26 = .ok (.lconst 0, 1) := by decide +kernel
theorem d_X7_stops_27 : decode c_X7_stops 27 = .ok (.lreturn, 1) := by decide +kernel
theorem d_X7_scale_0 : decode c_X7_scale 0 = .ok (.lconst 0, 1) := by decide +kernel
theorem d_X7_scale_1 : decode c_X7_scale 1 = .ok (.lstore 4, 2) := by decide +kernel
theorem d_X7_scale_3 : decode c_X7_scale 3 = .ok (.lconst 0, 1) := by decide +kernel
theorem d_X7_scale_4 : decode c_X7_scale 4 = .ok (.lstore 6, 2) := by decide +kernel
theorem d_X7_scale_6 : decode c_X7_scale 6 = .ok (.iload_n 1, 1) := by decide +kernel
theorem d_X7_scale_7 : decode c_X7_scale 7 = .ok (.iconst 5, 1) := by decide +kernel
theorem d_X7_scale_8 : decode c_X7_scale 8 = .ok (.imul, 1) := by decide +kernel
theorem d_X7_scale_9 : decode c_X7_scale 9 = .ok (.istore 8, 2) := by decide +kernel
theorem d_X7_scale_11 : decode c_X7_scale 11 = .ok (.iload 8, 2) := by decide +kernel
theorem d_X7_scale_13 : decode c_X7_scale 13 = .ok (.iload_n 1, 1) := by decide +kernel
theorem d_X7_scale_14 : decode c_X7_scale 14 = .ok (.iconst 5, 1) := by decide +kernel
theorem d_X7_scale_15 : decode c_X7_scale 15 = .ok (.imul, 1) := by decide +kernel
theorem d_X7_scale_16 : decode c_X7_scale 16 = .ok (.aload_n 0, 1) := by decide +kernel
theorem d_X7_scale_17 : decode c_X7_scale 17 = .ok (.getfield 38, 3) := by decide +kernel
theorem d_X7_scale_20 : decode c_X7_scale 20 = .ok (.iload_n 1, 1) := by decide +kernel
theorem d_X7_scale_21 : decode c_X7_scale 21 = .ok (.iaload, 1) := by decide +kernel
theorem d_X7_scale_22 : decode c_X7_scale 22 = .ok (.iadd, 1) := by decide +kernel
theorem d_X7_scale_23 : decode c_X7_scale 23 = .ok (.if_icmp .ge 73, 3) := by decide +kernel
theorem d_X7_scale_26 : decode c_X7_scale 26 = .ok (.lload_n 2, 1) := by decide +kernel
theorem d_X7_scale_27 : decode c_X7_scale 27 = .ok (.aload_n 0, 1) := by decide +kernel
theorem d_X7_scale_28 : decode c_X7_scale 28 = .ok (.getfield 41, 3) := by decide +kernel
theorem d_X7_scale_31 : decode c_X7_scale 31 = .ok (.iload 8, 2) := by decide +kernel
theorem d_X7_scale_33 : decode c_X7_scale 33 = .ok (.iaload, 1) := by decide +kernel
theorem d_X7_scale_34 : decode c_X7_scale 34 = .ok (.i2l, 1) := by decide +kernel
theorem d_X7_scale_35 : decode c_X7_scale 35 = .ok (.lcmp, 1) := by decide +kernel
theorem d_X7_scale_36 : decode c_X7_scale 36 = .ok (.ifCond .ge 7, 3) := by decide +kernel
theorem d_X7_scale_39 : decode c_X7_scale 39 = .ok (.lload_n 2, 1) := by decide +kernel
theorem d_X7_scale_40 : decode c_X7_scale 40 = .ok (.goto 11, 3) := by decide +kernel
theorem d_X7_scale_43 : decode c_X7_scale 43 = .ok (.aload_n 0, 1) := by decide +kernel
theorem d_X7_scale_44 : decode c_X7_scale 44 = .ok (.getfield 41, 3) := by decide +kernel
theorem d_X7_scale_47 : decode c_X7_scale 47 = .ok (.iload 8, 2) := by decide +kernel
theorem d_X7_scale_49 : decode c_X7_scale 49 = .ok (.iaload, 1) := by decide +kernel
theorem d_X7_scale_50 : decode c_X7_scale 50 = .ok (.i2l, 1) := by decide +kernel
theorem d_X7_scale_51 : decode c_X7_scale 51 = .ok (.lstore 9, 2) := by decide +kernel
theorem d_X7_scale_53 : decode c_X7_scale 53 = .ok (.lload 9, 2) := by decide +kernel
theorem d_X7_scale_55 : decode c_X7_scale 55 = .ok (.lload 6, 2) := by decide +kernel
theorem d_X7_scale_57 : decode c_X7_scale 57 = .ok (.lcmp, 1) := by decide +kernel
theorem d_X7_scale_58 : decode c_X7_scale 58 = .ok (.ifCond .le 22, 3) := by decide +kernel
theorem d_X7_scale_61 : decode c_X7_scale 61 = .ok (.lload 4, 2) := by decide +kernel
theorem d_X7_scale_63 : decode c_X7_scale 63 = .ok (.lload 9, 2) := by decide +kernel
theorem d_X7_scale_65 : decode c_X7_scale 65 = .ok (.lload 6, 2) := by decide +kernel
theorem d_X7_scale_67 : decode c_X7_scale 67 = .ok (.lsub, 1) := by decide +kernel
theorem d_X7_scale_68 : decode c_X7_scale 68 = .ok (.aload_n 0, 1) := by decide +kernel
theorem d_X7_scale_69 : decode c_X7_scale 69 = .ok (.getfield 44, 3) := by decide +kernel
theorem d_X7_scale_72 : decode c_X7_scale 72 = .ok (.iload 8, 2) := by decide +kernel
theorem d_X7_scale_74 : decode c_X7_scale 74 = .ok (.iaload, 1) := by decide +kernel
theorem d_X7_scale_75 : decode c_X7_scale 75 = .ok (.i2l, 1) := by decide +kernel
theorem d_X7_scale_76 : decode c_X7_scale 76 = .ok (.lmul, 1) := by decide +kernel
theorem d_X7_scale_77 : decode c_X7_scale 77 = .ok (.ladd, 1) := by decide +kernel
theorem d_X7_scale_78 : decode c_X7_scale 78 = .ok (.lstore 4, 2) := by decide +kernel
theorem d_X7_scale_80 : decode c_X7_scale 80 = .ok (.aload_n 0, 1) := by decide +kernel
theorem d_X7_scale_81 : decode c_X7_scale 81 = .ok (.getfield 41, 3) := by decide +kernel
theorem d_X7_scale_84 : decode c_X7_scale 84 = .ok (.iload 8, 2) := by decide +kernel
theorem d_X7_scale_86 : decode c_X7_scale 86 = .ok (.iaload, 1) := by decide +kernel
theorem d_X7_scale_87 : decode c_X7_scale 87 = .ok (.i2l, 1) := by decide +kernel
theorem d_X7_scale_88 : decode c_X7_scale 88 = .ok (.lstore 6, 2) := by decide +kernel
theorem d_X7_scale_90 : decode c_X7_scale 90 = .ok (.iinc 8 1, 3) := by decide +kernel
theorem d_X7_scale_93 : decode c_X7_scale 93 = .ok (.goto (-82), 3) := by decide +kernel
theorem d_X7_scale_96 : decode c_X7_scale 96 = .ok (.lload_n 2, 1) := by decide +kernel
theorem d_X7_scale_97 : decode c_X7_scale 97 = .ok (.lconst 0, 1) := by decide +kernel
theorem d_X7_scale_98 : decode c_X7_scale 98 = .ok (.lcmp, 1) := by decide +kernel
theorem d_X7_scale_99 : decode c_X7_scale 99 = .ok (.ifCond .gt 7, 3) := by decide +kernel
theorem d_X7_scale_102 : decode c_X7_scale 102 = .ok (.lconst 0, 1) := by decide +kernel
theorem d_X7_scale_103 : decode c_X7_scale 103 = .ok (.goto 12, 3) := by decide +kernel
theorem d_X7_scale_106 : decode c_X7_scale 106 = .ok (.aload_n 0, 1) := by decide +kernel
theorem d_X7_scale_107 : decode c_X7_scale 107 = .ok (.lload 4, 2) := by decide +kernel
theorem d_X7_scale_109 : decode c_X7_scale 109 = .ok (.ldc2_w 112, 3) := by decide +kernel
theorem d_X7_scale_112 : decode c_X7_scale 112 = .ok (.invokevirtual 114, 3) := by decide +kernel
theorem d_X7_scale_115 : decode c_X7_scale 115 = .ok (.lreturn, 1) := by decide +kernel
theorem d_X7_plain_0 : decode c_X7_plain 0 = .ok (.iload_n 1, 1) := by decide +kernel
theorem d_X7_plain_1 : decode c_X7_plain 1 = .ok (.iconst 4, 1) := by decide +kernel
theorem d_X7_plain_2 : decode c_X7_plain 2 = .ok (.if_icmp .ne 12, 3) := by decide +kernel
theorem d_X7_plain_5 : decode c_X7_plain 5 = .ok (.aload_n 0, 1) := by decide +kernel
theorem d_X7_plain_6 : decode c_X7_plain 6 = .ok (.lload_n 2, 1) := by decide +kernel
theorem d_X7_plain_7 : decode c_X7_plain 7 = .ok (.lload 4, 2) := by decide +kernel
theorem d_X7_plain_9 : decode c_X7_plain 9 = .ok (.ladd, 1) := by decide +kernel
theorem d_X7_plain_10 : decode c_X7_plain 10 = .ok (.invokevirtual 118, 3) := by decide +kernel
theorem d_X7_plain_13 : decode c_X7_plain 13 = .ok (.lreturn, 1) := by decide +kernel
theorem d_X7_plain_14 : decode c_X7_plain 14 = .ok (.iload_n 1, 1) := by decide +kernel
theorem d_X7_plain_15 : decode c_X7_plain 15 = .ok (.iconst 5, 1) := by decide +kernel
theorem d_X7_plain_16 : decode c_X7_plain 16 = .ok (.if_icmp .ne 12, 3) := by decide +kernel
theorem d_X7_plain_19 : decode c_X7_plain 19 = .ok (.aload_n 0, 1) := by decide +kernel
theorem d_X7_plain_20 : decode c_X7_plain 20 = .ok (.lload_n 2, 1) := by decide +kernel
theorem d_X7_plain_21 : decode c_X7_plain 21 = .ok (.lload 4, 2) := by decide +kernel
theorem d_X7_plain_23 : decode c_X7_plain 23 = .ok (.lsub, 1) := by decide +kernel
theorem d_X7_plain_24 : decode c_X7_plain 24 = .ok (.invokevirtual 118, 3) := by decide +kernel
theorem d_X7_plain_27 : decode c_X7_plain 27 = .ok (.lreturn, 1) := by decide +kernel
theorem d_X7_plain_28 : decode c_X7_plain 28 = .ok (.iload_n 1, 1) := by decide +kernel
theorem d_X7_plain_29 : decode c_X7_plain 29 = .ok (.bipush 6, 2) := by decide +kernel
theorem d_X7_plain_31 : decode c_X7_plain 31 = .ok (.if_icmp .ne 12, 3) := by decide +kernel
theorem d_X7_plain_34 : decode c_X7_plain 34 = .ok (.aload_n 0, 1) := by decide +kernel
theorem d_X7_plain_35 : decode c_X7_plain 35 = .ok (.lload_n 2, 1) := by decide +kernel
theorem d_X7_plain_36 : decode c_X7_plain 36 = .ok (.lload 4, 2) := by decide +kernel
theorem d_X7_plain_38 : decode c_X7_plain 38 = .ok (.lmul, 1) := by decide +kernel
theorem d_X7_plain_39 : decode c_X7_plain 39 = .ok (.invokevirtual 118, 3) := by decide +kernel
theorem d_X7_plain_42 : decode c_X7_plain 42 = .ok (.lreturn, 1) := by decide +kernel
theorem d_X7_plain_43 : decode c_X7_plain 43 = .ok (.iload_n 1, 1) := by decide +kernel
theorem d_X7_plain_44 : decode c_X7_plain 44 = .ok (.bipush 7, 2) := by decide +kernel
theorem d_X7_plain_46 : decode c_X7_plain 46 = .ok (.if_icmp .ne 16, 3) := by decide +kernel
theorem d_X7_plain_49 : decode c_X7_plain 49 = .ok (.lload_n 2, 1) := by decide +kernel
theorem d_X7_plain_50 : decode c_X7_plain 50 = .ok (.lload 4, 2) := by decide +kernel
theorem d_X7_plain_52 : decode c_X7_plain 52 = .ok (.lcmp, 1) := by decide +kernel
theorem d_X7_plain_53 : decode c_X7_plain 53 = .ok (.ifCond .ge 7, 3) := by decide +kernel
theorem d_X7_plain_56 : decode c_X7_plain 56 = .ok (.lconst 1, 1) := by decide +kernel
theorem d_X7_plain_57 : decode c_X7_plain 57 = .ok (.goto 4, 3) := by decide +kernel
theorem d_X7_plain_60 : decode c_X7_plain 60 = .ok (.lconst 0, 1) := by decide +kernel
theorem d_X7_plain_61 : decode c_X7_plain 61 = .ok (.lreturn, 1) := by decide +kernel
theorem d_X7_plain_62 : decode c_X7_plain 62 = .ok (.iload_n 1, 1) := by decide +kernel
theorem d_X7_plain_63 : decode c_X7_plain 63 = .ok (.bipush 8, 2) := by decide +kernel
theorem d_X7_plain_65 : decode c_X7_plain 65 = .ok (.if_icmp .ne 16, 3) := by decide +kernel
theorem d_X7_plain_68 : decode c_X7_plain 68 = .ok (.lload_n 2, 1) := by decide +kernel
theorem d_X7_plain_69 : decode c_X7_plain 69 = .ok (.lload 4, 2) := by decide +kernel
theorem d_X7_plain_71 : decode c_X7_plain 71 = .ok (.lcmp, 1) := by decide +kernel
theorem d_X7_plain_72 : decode c_X7_plain 72 = .ok (.ifCond .ne 7, 3) := by decide +kernel
theorem d_X7_plain_75 : decode c_X7_plain 75 = .ok (.lconst 1, 1) := by decide +kernel
theorem d_X7_plain_76 : decode c_X7_plain 76 = .ok (.goto 4, 3) := by decide +kernel
theorem d_X7_plain_79 : decode c_X7_plain 79 = .ok (.lconst 0, 1) := by decide +kernel
theorem d_X7_plain_80 : decode c_X7_plain 80 = .ok (.lreturn, 1) := by decide +kernel
theorem d_X7_plain_81 : decode c_X7_plain 81 = .ok (.lload_n 2, 1) := by decide +kernel
theorem d_X7_plain_82 : decode c_X7_plain 82 = .ok (.lload 4, 2) := by decide +kernel
theorem d_X7_plain_84 : decode c_X7_plain 84 = .ok (.lcmp, 1) := by decide +kernel
theorem d_X7_plain_85 : decode c_X7_plain 85 = .ok (.ifCond .ge 7, 3) := by decide +kernel
theorem d_X7_plain_88 : decode c_X7_plain 88 = .ok (.iconst 1, 1) := by decide +kernel
theorem d_X7_plain_89 : decode c_X7_plain 89 = .ok (.goto 4, 3) := by decide +kernel
theorem d_X7_plain_92 : decode c_X7_plain 92 = .ok (.iconst 0, 1) := by decide +kernel
theorem d_X7_plain_93 : decode c_X7_plain 93 = .ok (.iload_n 1, 1) := by decide +kernel
theorem d_X7_plain_94 : decode c_X7_plain 94 = .ok (.bipush 9, 2) := by decide +kernel
theorem d_X7_plain_96 : decode c_X7_plain 96 = .ok (.if_icmp .ne 7, 3) := by decide +kernel
theorem d_X7_plain_99 : decode c_X7_plain 99 = .ok (.iconst 1, 1) := by decide +kernel
theorem d_X7_plain_100 : decode c_X7_plain 100 = .ok (.goto 4, 3) := by decide +kernel
theorem d_X7_plain_103 : decode c_X7_plain 103 = .ok (.iconst 0, 1) := by decide +kernel
theorem d_X7_plain_104 : decode c_X7_plain 104 = .ok (.if_icmp .ne 7, 3) := by decide +kernel
theorem d_X7_plain_107 : decode c_X7_plain 107 = .ok (.lload_n 2, 1) := by decide +kernel
theorem d_X7_plain_108 : decode c_X7_plain 108 = .ok (.goto 5, 3) := by decide +kernel
theorem d_X7_plain_111 : decode c_X7_plain 111 = .ok (.lload 4, 2) := by decide +kernel
theorem d_X7_plain_113 : decode c_X7_plain 113 = .ok (.lreturn, 1) := by decide +kernel
theorem d_X7_choose_0 : decode c_X7_choose 0 = .ok (.aload_n 0, 1) := by decide +kernel
theorem d_X7_choose_1 : decode c_X7_choose 1 = .ok (.getfield 20, 3) := by decide +kernel
theorem d_X7_choose_4 : decode c_X7_choose 4 = .ok (.iload_n 1, 1) := by decide +kernel
theorem d_X7_choose_5 : decode c_X7_choose 5 = .ok (.iaload, 1) := by decide +kernel
theorem d_X7_choose_6 : decode c_X7_choose 6 = .ok (.ifCond .ge 9, 3) := by decide +kernel
theorem d_X7_choose_9 : decode c_X7_choose 9 = .ok (.ldc2_w 106, 3) := by decide +kernel
theorem d_X7_choose_12 : decode c_X7_choose 12 = .ok (.goto 14, 3) := by decide +kernel
theorem d_X7_choose_15 : decode c_X7_choose 15 = .ok (.aload_n 0, 1) := by decide +kernel
theorem d_X7_choose_16 : decode c_X7_choose 16 = .ok (.getfield 70, 3) := by decide +kernel
theorem d_X7_choose_19 : decode c_X7_choose 19 = .ok (.aload_n 0, 1) := by decide +kernel
theorem d_X7_choose_20 : decode c_X7_choose 20 = .ok (.getfield 20, 3) := by decide +kernel
theorem d_X7_choose_23 : decode c_X7_choose 23 = .ok (.iload_n 1, 1) := by decide +kernel
theorem d_X7_choose_24 : decode c_X7_choose 24 = .ok (.iaload, 1) := by decide +kernel
theorem d_X7_choose_25 : decode c_X7_choose 25 = .ok (.laload, 1) := by decide +kernel
theorem d_X7_choose_26 : decode c_X7_choose 26 = .ok (.lstore_n 3, 1) := by decide +kernel
theorem d_X7_choose_27 : decode c_X7_choose 27 = .ok (.aload_n 0, 1) := by decide +kernel
theorem d_X7_choose_28 : decode c_X7_choose 28 = .ok (.getfield 70, 3) := by decide +kernel
theorem d_X7_choose_31 : decode c_X7_choose 31 = .ok (.aload_n 0, 1) := by decide +kernel
theorem d_X7_choose_32 : decode c_X7_choose 32 = .ok (.getfield 23, 3) := by decide +kernel
theorem d_X7_choose_35 : decode c_X7_choose 35 = .ok (.iload_n 1, 1) := by decide +kernel
theorem d_X7_choose_36 : decode c_X7_choose 36 = .ok (.iaload, 1) := by decide +kernel
theorem d_X7_choose_37 : decode c_X7_choose 37 = .ok (.laload, 1) := by decide +kernel
theorem d_X7_choose_38 : decode c_X7_choose 38 = .ok (.lstore 5, 2) := by decide +kernel
theorem d_X7_choose_40 : decode c_X7_choose 40 = .ok (.iload_n 2, 1) := by decide +kernel
theorem d_X7_choose_41 : decode c_X7_choose 41 = .ok (.bipush 17, 2) := by decide +kernel
theorem d_X7_choose_43 : decode c_X7_choose 43 = .ok (.if_icmp .ne 67, 3) := by decide +kernel
theorem d_X7_choose_46 : decode c_X7_choose 46 = .ok (.lload_n 3, 1) := by decide +kernel
theorem d_X7_choose_47 : decode c_X7_choose 47 = .ok (.ldc2_w 106, 3) := by decide +kernel
theorem d_X7_choose_50 : decode c_X7_choose 50 = .ok (.lcmp, 1) := by decide +kernel
theorem d_X7_choose_51 : decode c_X7_choose 51 = .ok (.ifCond .eq 5, 3) := by decide +kernel
theorem d_X7_choose_54 : decode c_X7_choose 54 = .ok (.lload_n 3, 1) := by decide +kernel
theorem d_X7_choose_55 : decode c_X7_choose 55 = .ok (.lreturn, 1) := by decide +kernel
theorem d_X7_choose_56 : decode c_X7_choose 56 = .ok (.lload 5, 2) := by decide +kernel
theorem d_X7_choose_58 : decode c_X7_choose 58 = .ok (.ldc2_w 110, 3) := by decide +kernel
theorem d_X7_choose_61 : decode c_X7_choose 61 = .ok (.lcmp, 1) := by decide +kernel
theorem d_X7_choose_62 : decode c_X7_choose 62 = .ok (.ifCond .le 8, 3) := by decide +kernel
theorem d_X7_choose_65 : decode c_X7_choose 65 = .ok (.lload 5, 2) := by decide +kernel
theorem d_X7_choose_67 : decode c_X7_choose 67 = .ok (.goto 42, 3) := by decide +kernel
theorem d_X7_choose_70 : decode c_X7_choose 70 = .ok (.lload 5, 2) := by decide +kernel
theorem d_X7_choose_72 : decode c_X7_choose 72 = .ok (.ldc2_w 106, 3) := by decide +kernel
theorem d_X7_choose_75 : decode c_X7_choose 75 = .ok (.lcmp, 1) := by decide +kernel
theorem d_X7_choose_76 : decode c_X7_choose 76 = .ok (.ifCond .ne 9, 3) := by decide +kernel
theorem d_X7_choose_79 : decode c_X7_choose 79 = .ok (.ldc2_w 108, 3) := by decide +kernel
theorem d_X7_choose_82 : decode c_X7_choose 82 = .ok (.goto 27, 3) := by decide +kernel
theorem d_X7_choose_85 : decode c_X7_choose 85 = .ok (.lload 5, 2) := by decide +kernel
theorem d_X7_choose_87 : decode c_X7_choose 87 = .ok (.lconst 0, 1) := by decide +kernel
theorem d_X7_choose_88 : decode c_X7_choose 88 = .ok (.lcmp, 1) := by decide +kernel
theorem d_X7_choose_89 : decode c_X7_choose 89 = .ok (.ifCond .ne 9, 3) := by decide +kernel
theorem d_X7_choose_92 : decode c_X7_choose 92 = .ok (.ldc2_w 106, 3) := by decide +kernel
theorem d_X7_choose_95 : decode c_X7_choose 95 = .ok (.goto 14, 3) := by decide +kernel
theorem d_X7_choose_98 : decode c_X7_choose 98 = .ok (.aload_n 0, 1) := by decide +kernel
theorem d_X7_choose_99 : decode c_X7_choose 99 = .ok (.getfield 70, 3) := by decide +kernel
theorem d_X7_choose_102 : decode c_X7_choose 102 = .ok (.aload_n 0, 1) := by decide +kernel
theorem d_X7_choose_103 : decode c_X7_choose 103 = .ok (.getfield 26, 3) := by decide +kernel
theorem d_X7_choose_106 : decode c_X7_choose 106 = .ok (.iload_n 1, 1) := by decide +kernel
theorem d_X7_choose_107 : decode c_X7_choose 107 = .ok (.iaload, 1) := by decide +kernel
theorem d_X7_choose_108 : decode c_X7_choose 108 = .ok (.laload, 1) := by decide +kernel
theorem d_X7_choose_109 : decode c_X7_choose 109 = .ok (.lreturn, 1) := by decide +kernel
theorem d_X7_choose_110 : decode c_X7_choose 110 = .ok (.iload_n 2, 1) := by decide +kernel
theorem d_X7_choose_111 : decode c_X7_choose 111 = .ok (.bipush 18, 2) := by decide +kernel
theorem d_X7_choose_113 : decode c_X7_choose 113 = .ok (.if_icmp .ne 55, 3) := by decide +kernel
theorem d_X7_choose_116 : decode c_X7_choose 116 = .ok (.lload_n 3, 1) := by decide +kernel
theorem d_X7_choose_117 : decode c_X7_choose 117 = .ok (.ldc2_w 110, 3) := by decide +kernel
end
section
theorem d_X7_choose_120 : decode c_X7_choose 120 = .ok (.lcmp, 1) := by decide +kernel
theorem d_X7_choose_121 : decode c_X7_choose 121 = .ok (.ifCond .le 5, 3) := by decide +kernel
theorem d_X7_choose_124 : decode c_X7_choose 124 = .ok (.lload_n 3, 1) := by decide +kernel
theorem d_X7_choose_125 : decode c_X7_choose 125 = .ok (.lreturn, 1) := by decide +kernel
theorem d_X7_choose_126 : decode c_X7_choose 126 = .ok (.lload 5, 2) := by decide +kernel
theorem d_X7_choose_128 : decode c_X7_choose 128 = .ok (.ldc2_w 110, 3) := by decide +kernel
theorem d_X7_choose_131 : decode c_X7_choose 131 = .ok (.lcmp, 1) := by decide +kernel
theorem d_X7_choose_132 : decode c_X7_choose 132 = .ok (.ifCond .le 6, 3) := by decide +kernel
theorem d_X7_choose_135 : decode c_X7_choose 135 = .ok (.lload 5, 2) := by decide +kernel
theorem d_X7_choose_137 : decode c_X7_choose 137 = .ok (.lreturn, 1) := by decide +kernel
theorem d_X7_choose_138 : decode c_X7_choose 138 = .ok (.lload_n 3, 1) := by decide +kernel
theorem d_X7_choose_139 : decode c_X7_choose 139 = .ok (.ldc2_w 106, 3) := by decide +kernel
theorem d_X7_choose_142 : decode c_X7_choose 142 = .ok (.lcmp, 1) := by decide +kernel
theorem d_X7_choose_143 : decode c_X7_choose 143 = .ok (.ifCond .ne 8, 3) := by decide +kernel
theorem d_X7_choose_146 : decode c_X7_choose 146 = .ok (.lload 5, 2) := by decide +kernel
theorem d_X7_choose_148 : decode c_X7_choose 148 = .ok (.goto 19, 3) := by decide +kernel
theorem d_X7_choose_151 : decode c_X7_choose 151 = .ok (.lload 5, 2) := by decide +kernel
theorem d_X7_choose_153 : decode c_X7_choose 153 = .ok (.ldc2_w 106, 3) := by decide +kernel
theorem d_X7_choose_156 : decode c_X7_choose 156 = .ok (.lcmp, 1) := by decide +kernel
theorem d_X7_choose_157 : decode c_X7_choose 157 = .ok (.ifCond .ne 7, 3) := by decide +kernel
theorem d_X7_choose_160 : decode c_X7_choose 160 = .ok (.lload_n 3, 1) := by decide +kernel
theorem d_X7_choose_161 : decode c_X7_choose 161 = .ok (.goto 6, 3) := by decide +kernel
theorem d_X7_choose_164 : decode c_X7_choose 164 = .ok (.ldc2_w 122, 3) := by decide +kernel
theorem d_X7_choose_167 : decode c_X7_choose 167 = .ok (.lreturn, 1) := by decide +kernel
theorem d_X7_choose_168 : decode c_X7_choose 168 = .ok (.aload_n 0, 1) := by decide +kernel
theorem d_X7_choose_169 : decode c_X7_choose 169 = .ok (.lload_n 3, 1) := by decide +kernel
theorem d_X7_choose_170 : decode c_X7_choose 170 = .ok (.invokevirtual 124, 3) := by decide +kernel
theorem d_X7_choose_173 : decode c_X7_choose 173 = .ok (.lconst 0, 1) := by decide +kernel
theorem d_X7_choose_174 : decode c_X7_choose 174 = .ok (.lcmp, 1) := by decide +kernel
theorem d_X7_choose_175 : decode c_X7_choose 175 = .ok (.ifCond .eq 9, 3) := by decide +kernel
theorem d_X7_choose_178 : decode c_X7_choose 178 = .ok (.aload_n 0, 1) := by decide +kernel
theorem d_X7_choose_179 : decode c_X7_choose 179 = .ok (.lload_n 3, 1) := by decide +kernel
theorem d_X7_choose_180 : decode c_X7_choose 180 = .ok (.invokevirtual 124, 3) := by decide +kernel
theorem d_X7_choose_183 : decode c_X7_choose 183 = .ok (.lreturn, 1) := by decide +kernel
theorem d_X7_choose_184 : decode c_X7_choose 184 = .ok (.iload_n 2, 1) := by decide +kernel
theorem d_X7_choose_185 : decode c_X7_choose 185 = .ok (.bipush 15, 2) := by decide +kernel
theorem d_X7_choose_187 : decode c_X7_choose 187 = .ok (.if_icmp .ne 26, 3) := by decide +kernel
theorem d_X7_choose_190 : decode c_X7_choose 190 = .ok (.lload_n 3, 1) := by decide +kernel
theorem d_X7_choose_191 : decode c_X7_choose 191 = .ok (.lconst 0, 1) := by decide +kernel
theorem d_X7_choose_192 : decode c_X7_choose 192 = .ok (.lcmp, 1) := by decide +kernel
theorem d_X7_choose_193 : decode c_X7_choose 193 = .ok (.ifCond .eq 8, 3) := by decide +kernel
theorem d_X7_choose_196 : decode c_X7_choose 196 = .ok (.lload 5, 2) := by decide +kernel
theorem d_X7_choose_198 : decode c_X7_choose 198 = .ok (.goto 14, 3) := by decide +kernel
theorem d_X7_choose_201 : decode c_X7_choose 201 = .ok (.aload_n 0, 1) := by decide +kernel
theorem d_X7_choose_202 : decode c_X7_choose 202 = .ok (.getfield 70, 3) := by decide +kernel
theorem d_X7_choose_205 : decode c_X7_choose 205 = .ok (.aload_n 0, 1) := by decide +kernel
theorem d_X7_choose_206 : decode c_X7_choose 206 = .ok (.getfield 26, 3) := by decide +kernel
theorem d_X7_choose_209 : decode c_X7_choose 209 = .ok (.iload_n 1, 1) := by decide +kernel
theorem d_X7_choose_210 : decode c_X7_choose 210 = .ok (.iaload, 1) := by decide +kernel
theorem d_X7_choose_211 : decode c_X7_choose 211 = .ok (.laload, 1) := by decide +kernel
theorem d_X7_choose_212 : decode c_X7_choose 212 = .ok (.lreturn, 1) := by decide +kernel
theorem d_X7_choose_213 : decode c_X7_choose 213 = .ok (.iload_n 2, 1) := by decide +kernel
theorem d_X7_choose_214 : decode c_X7_choose 214 = .ok (.bipush 13, 2) := by decide +kernel
theorem d_X7_choose_216 : decode c_X7_choose 216 = .ok (.if_icmp .ne 11, 3) := by decide +kernel
theorem d_X7_choose_219 : decode c_X7_choose 219 = .ok (.lload_n 3, 1) := by decide +kernel
theorem d_X7_choose_220 : decode c_X7_choose 220 = .ok (.lconst 0, 1) := by decide +kernel
theorem d_X7_choose_221 : decode c_X7_choose 221 = .ok (.lcmp, 1) := by decide +kernel
theorem d_X7_choose_222 : decode c_X7_choose 222 = .ok (.ifCond .ne 5, 3) := by decide +kernel
theorem d_X7_choose_225 : decode c_X7_choose 225 = .ok (.lconst 0, 1) := by decide +kernel
theorem d_X7_choose_226 : decode c_X7_choose 226 = .ok (.lreturn, 1) := by decide +kernel
theorem d_X7_choose_227 : decode c_X7_choose 227 = .ok (.iload_n 2, 1) := by decide +kernel
theorem d_X7_choose_228 : decode c_X7_choose 228 = .ok (.bipush 14, 2) := by decide +kernel
theorem d_X7_choose_230 : decode c_X7_choose 230 = .ok (.if_icmp .ne 11, 3) := by decide +kernel
theorem d_X7_choose_233 : decode c_X7_choose 233 = .ok (.lload_n 3, 1) := by decide +kernel
theorem d_X7_choose_234 : decode c_X7_choose 234 = .ok (.lconst 0, 1) := by decide +kernel
theorem d_X7_choose_235 : decode c_X7_choose 235 = .ok (.lcmp, 1) := by decide +kernel
theorem d_X7_choose_236 : decode c_X7_choose 236 = .ok (.ifCond .eq 5, 3) := by decide +kernel
theorem d_X7_choose_239 : decode c_X7_choose 239 = .ok (.lconst 1, 1) := by decide +kernel
theorem d_X7_choose_240 : decode c_X7_choose 240 = .ok (.lreturn, 1) := by decide +kernel
theorem d_X7_choose_241 : decode c_X7_choose 241 = .ok (.aload_n 0, 1) := by decide +kernel
theorem d_X7_choose_242 : decode c_X7_choose 242 = .ok (.lload 5, 2) := by decide +kernel
theorem d_X7_choose_244 : decode c_X7_choose 244 = .ok (.invokevirtual 124, 3) := by decide +kernel
theorem d_X7_choose_247 : decode c_X7_choose 247 = .ok (.lconst 0, 1) := by decide +kernel
theorem d_X7_choose_248 : decode c_X7_choose 248 = .ok (.lcmp, 1) := by decide +kernel
theorem d_X7_choose_249 : decode c_X7_choose 249 = .ok (.ifCond .eq 12, 3) := by decide +kernel
theorem d_X7_choose_252 : decode c_X7_choose 252 = .ok (.aload_n 0, 1) := by decide +kernel
theorem d_X7_choose_253 : decode c_X7_choose 253 = .ok (.lload 5, 2) := by decide +kernel
theorem d_X7_choose_255 : decode c_X7_choose 255 = .ok (.invokevirtual 124, 3) := by decide +kernel
theorem d_X7_choose_258 : decode c_X7_choose 258 = .ok (.goto 15, 3) := by decide +kernel
theorem d_X7_choose_261 : decode c_X7_choose 261 = .ok (.lload 5, 2) := by decide +kernel
theorem d_X7_choose_263 : decode c_X7_choose 263 = .ok (.lconst 0, 1) := by decide +kernel
theorem d_X7_choose_264 : decode c_X7_choose 264 = .ok (.lcmp, 1) := by decide +kernel
theorem d_X7_choose_265 : decode c_X7_choose 265 = .ok (.ifCond .eq 7, 3) := by decide +kernel
theorem d_X7_choose_268 : decode c_X7_choose 268 = .ok (.lconst 1, 1) := by decide +kernel
theorem d_X7_choose_269 : decode c_X7_choose 269 = .ok (.goto 4, 3) := by decide +kernel
theorem d_X7_choose_272 : decode c_X7_choose 272 = .ok (.lconst 0, 1) := by decide +kernel
theorem d_X7_choose_273 : decode c_X7_choose 273 = .ok (.lreturn, 1) := by decide +kernel
theorem d_X7_workOut_0 : decode c_X7_workOut 0 = .ok (.aload_n 0, 1) := by decide +kernel
theorem d_X7_workOut_1 : decode c_X7_workOut 1 = .ok (.getfield 16, 3) := by decide +kernel
theorem d_X7_workOut_4 : decode c_X7_workOut 4 = .ok (.iload_n 2, 1) := by decide +kernel
theorem d_X7_workOut_5 : decode c_X7_workOut 5 = .ok (.iaload, 1) := by decide +kernel
theorem d_X7_workOut_6 : decode c_X7_workOut 6 = .ok (.istore_n 3, 1) := by decide +kernel
theorem d_X7_workOut_7 : decode c_X7_workOut 7 = .ok (.aload_n 0, 1) := by decide +kernel
theorem d_X7_workOut_8 : decode c_X7_workOut 8 = .ok (.getfield 20, 3) := by decide +kernel
theorem d_X7_workOut_11 : decode c_X7_workOut 11 = .ok (.iload_n 2, 1) := by decide +kernel
theorem d_X7_workOut_12 : decode c_X7_workOut 12 = .ok (.iaload, 1) := by decide +kernel
theorem d_X7_workOut_13 : decode c_X7_workOut 13 = .ok (.istore 4, 2) := by decide +kernel
theorem d_X7_workOut_15 : decode c_X7_workOut 15 = .ok (.iload_n 3, 1) := by decide +kernel
theorem d_X7_workOut_16 : decode c_X7_workOut 16 = .ok (.ifCond .ne 7, 3) := by decide +kernel
theorem d_X7_workOut_19 : decode c_X7_workOut 19 = .ok (.iload 4, 2) := by decide +kernel
theorem d_X7_workOut_21 : decode c_X7_workOut 21 = .ok (.i2l, 1) := by decide +kernel
theorem d_X7_workOut_22 : decode c_X7_workOut 22 = .ok (.lreturn, 1) := by decide +kernel
theorem d_X7_workOut_23 : decode c_X7_workOut 23 = .ok (.iload_n 3, 1) := by decide +kernel
theorem d_X7_workOut_24 : decode c_X7_workOut 24 = .ok (.iconst 1, 1) := by decide +kernel
theorem d_X7_workOut_25 : decode c_X7_workOut 25 = .ok (.if_icmp .ne 17, 3) := by decide +kernel
theorem d_X7_workOut_28 : decode c_X7_workOut 28 = .ok (.aload_n 0, 1) := by decide +kernel
theorem d_X7_workOut_29 : decode c_X7_workOut 29 = .ok (.getfield 47, 3) := by decide +kernel
theorem d_X7_workOut_32 : decode c_X7_workOut 32 = .ok (.iload_n 1, 1) := by decide +kernel
theorem d_X7_workOut_33 : decode c_X7_workOut 33 = .ok (.bipush 8, 2) := by decide +kernel
theorem d_X7_workOut_35 : decode c_X7_workOut 35 = .ok (.imul, 1) := by decide +kernel
theorem d_X7_workOut_36 : decode c_X7_workOut 36 = .ok (.iload 4, 2) := by decide +kernel
theorem d_X7_workOut_38 : decode c_X7_workOut 38 = .ok (.iadd, 1) := by decide +kernel
theorem d_X7_workOut_39 : decode c_X7_workOut 39 = .ok (.iaload, 1) := by decide +kernel
theorem d_X7_workOut_40 : decode c_X7_workOut 40 = .ok (.i2l, 1) := by decide +kernel
theorem d_X7_workOut_41 : decode c_X7_workOut 41 = .ok (.lreturn, 1) := by decide +kernel
theorem d_X7_workOut_42 : decode c_X7_workOut 42 = .ok (.iload_n 3, 1) := by decide +kernel
theorem d_X7_workOut_43 : decode c_X7_workOut 43 = .ok (.iconst 2, 1) := by decide +kernel
theorem d_X7_workOut_44 : decode c_X7_workOut 44 = .ok (.if_icmp .ne 11, 3) := by decide +kernel
theorem d_X7_workOut_47 : decode c_X7_workOut 47 = .ok (.aload_n 0, 1) := by decide +kernel
theorem d_X7_workOut_48 : decode c_X7_workOut 48 = .ok (.getfield 73, 3) := by decide +kernel
theorem d_X7_workOut_51 : decode c_X7_workOut 51 = .ok (.iload 4, 2) := by decide +kernel
theorem d_X7_workOut_53 : decode c_X7_workOut 53 = .ok (.laload, 1) := by decide +kernel
theorem d_X7_workOut_54 : decode c_X7_workOut 54 = .ok (.lreturn, 1) := by decide +kernel
theorem d_X7_workOut_55 : decode c_X7_workOut 55 = .ok (.iload_n 3, 1) := by decide +kernel
theorem d_X7_workOut_56 : decode c_X7_workOut 56 = .ok (.iconst 3, 1) := by decide +kernel
theorem d_X7_workOut_57 : decode c_X7_workOut 57 = .ok (.if_icmp .ne 15, 3) := by decide +kernel
theorem d_X7_workOut_60 : decode c_X7_workOut 60 = .ok (.aload_n 0, 1) := by decide +kernel
theorem d_X7_workOut_61 : decode c_X7_workOut 61 = .ok (.getfield 67, 3) := by decide +kernel
theorem d_X7_workOut_64 : decode c_X7_workOut 64 = .ok (.iload_n 1, 1) := by decide +kernel
theorem d_X7_workOut_65 : decode c_X7_workOut 65 = .ok (.iconst 2, 1) := by decide +kernel
theorem d_X7_workOut_66 : decode c_X7_workOut 66 = .ok (.imul, 1) := by decide +kernel
theorem d_X7_workOut_67 : decode c_X7_workOut 67 = .ok (.iload 4, 2) := by decide +kernel
theorem d_X7_workOut_69 : decode c_X7_workOut 69 = .ok (.iadd, 1) := by decide +kernel
theorem d_X7_workOut_70 : decode c_X7_workOut 70 = .ok (.laload, 1) := by decide +kernel
theorem d_X7_workOut_71 : decode c_X7_workOut 71 = .ok (.lreturn, 1) := by decide +kernel
theorem d_X7_workOut_72 : decode c_X7_workOut 72 = .ok (.iload_n 3, 1) := by decide +kernel
theorem d_X7_workOut_73 : decode c_X7_workOut 73 = .ok (.bipush 16, 2) := by decide +kernel
theorem d_X7_workOut_75 : decode c_X7_workOut 75 = .ok (.if_icmp .ne 7, 3) := by decide +kernel
theorem d_X7_workOut_78 : decode c_X7_workOut 78 = .ok (.ldc2_w 106, 3) := by decide +kernel
theorem d_X7_workOut_81 : decode c_X7_workOut 81 = .ok (.lreturn, 1) := by decide +kernel
theorem d_X7_workOut_82 : decode c_X7_workOut 82 = .ok (.iload_n 3, 1) := by decide +kernel
theorem d_X7_workOut_83 : decode c_X7_workOut 83 = .ok (.bipush 13, 2) := by decide +kernel
theorem d_X7_workOut_85 : decode c_X7_workOut 85 = .ok (.if_icmp .eq 27, 3) := by decide +kernel
theorem d_X7_workOut_88 : decode c_X7_workOut 88 = .ok (.iload_n 3, 1) := by decide +kernel
theorem d_X7_workOut_89 : decode c_X7_workOut 89 = .ok (.bipush 14, 2) := by decide +kernel
theorem d_X7_workOut_91 : decode c_X7_workOut 91 = .ok (.if_icmp .eq 21, 3) := by decide +kernel
theorem d_X7_workOut_94 : decode c_X7_workOut 94 = .ok (.iload_n 3, 1) := by decide +kernel
theorem d_X7_workOut_95 : decode c_X7_workOut 95 = .ok (.bipush 15, 2) := by decide +kernel
theorem d_X7_workOut_97 : decode c_X7_workOut 97 = .ok (.if_icmp .eq 15, 3) := by decide +kernel
theorem d_X7_workOut_100 : decode c_X7_workOut 100 = .ok (.iload_n 3, 1) := by decide +kernel
theorem d_X7_workOut_101 : decode c_X7_workOut 101 = .ok (.bipush 17, 2) := by decide +kernel
theorem d_X7_workOut_103 : decode c_X7_workOut 103 = .ok (.if_icmp .eq 9, 3) := by decide +kernel
theorem d_X7_workOut_106 : decode c_X7_workOut 106 = .ok (.iload_n 3, 1) := by decide +kernel
theorem d_X7_workOut_107 : decode c_X7_workOut 107 = .ok (.bipush 18, 2) := by decide +kernel
theorem d_X7_workOut_109 : decode c_X7_workOut 109 = .ok (.if_icmp .ne 10, 3) := by decide +kernel
theorem d_X7_workOut_112 : decode c_X7_workOut 112 = .ok (.aload_n 0, 1) := by decide +kernel
theorem d_X7_workOut_113 : decode c_X7_workOut 113 = .ok (.iload_n 2, 1) := by decide +kernel
theorem d_X7_workOut_114 : decode c_X7_workOut 114 = .ok (.iload_n 3, 1) := by decide +kernel
theorem d_X7_workOut_115 : decode c_X7_workOut 115 = .ok (.invokevirtual 127, 3) := by decide +kernel
theorem d_X7_workOut_118 : decode c_X7_workOut 118 = .ok (.lreturn, 1) := by decide +kernel
theorem d_X7_workOut_119 : decode c_X7_workOut 119 = .ok (.iload_n 3, 1) := by decide +kernel
theorem d_X7_workOut_120 : decode c_X7_workOut 120 = .ok (.bipush 19, 2) := by decide +kernel
theorem d_X7_workOut_122 : decode c_X7_workOut 122 = .ok (.if_icmp .ne 59, 3) := by decide +kernel
theorem d_X7_workOut_125 : decode c_X7_workOut 125 = .ok (.aload_n 0, 1) := by decide +kernel
theorem d_X7_workOut_126 : decode c_X7_workOut 126 = .ok (.aload_n 0, 1) := by decide +kernel
theorem d_X7_workOut_127 : decode c_X7_workOut 127 = .ok (.getfield 70, 3) := by decide +kernel
theorem d_X7_workOut_130 : decode c_X7_workOut 130 = .ok (.aload_n 0, 1) := by decide +kernel
theorem d_X7_workOut_131 : decode c_X7_workOut 131 = .ok (.getfield 23, 3) := by decide +kernel
theorem d_X7_workOut_134 : decode c_X7_workOut 134 = .ok (.iload_n 2, 1) := by decide +kernel
theorem d_X7_workOut_135 : decode c_X7_workOut 135 = .ok (.iaload, 1) := by decide +kernel
theorem d_X7_workOut_136 : decode c_X7_workOut 136 = .ok (.laload, 1) := by decide +kernel
theorem d_X7_workOut_137 : decode c_X7_workOut 137 = .ok (.invokevirtual 124, 3) := by decide +kernel
theorem d_X7_workOut_140 : decode c_X7_workOut 140 = .ok (.lconst 0, 1) := by decide +kernel
theorem d_X7_workOut_141 : decode c_X7_workOut 141 = .ok (.lcmp, 1) := by decide +kernel
theorem d_X7_workOut_142 : decode c_X7_workOut 142 = .ok (.ifCond .eq 21, 3) := by decide +kernel
theorem d_X7_workOut_145 : decode c_X7_workOut 145 = .ok (.aload_n 0, 1) := by decide +kernel
theorem d_X7_workOut_146 : decode c_X7_workOut 146 = .ok (.aload_n 0, 1) := by decide +kernel
theorem d_X7_workOut_147 : decode c_X7_workOut 147 = .ok (.getfield 70, 3) := by decide +kernel
theorem d_X7_workOut_150 : decode c_X7_workOut 150 = .ok (.aload_n 0, 1) := by decide +kernel
theorem d_X7_workOut_151 : decode c_X7_workOut 151 = .ok (.getfield 23, 3) := by decide +kernel
theorem d_X7_workOut_154 : decode c_X7_workOut 154 = .ok (.iload_n 2, 1) := by decide +kernel
theorem d_X7_workOut_155 : decode c_X7_workOut 155 = .ok (.iaload, 1) := by decide +kernel
theorem d_X7_workOut_156 : decode c_X7_workOut 156 = .ok (.laload, 1) := by decide +kernel
theorem d_X7_workOut_157 : decode c_X7_workOut 157 = .ok (.invokevirtual 124, 3) := by decide +kernel
theorem d_X7_workOut_160 : decode c_X7_workOut 160 = .ok (.goto 20, 3) := by decide +kernel
theorem d_X7_workOut_163 : decode c_X7_workOut 163 = .ok (.aload_n 0, 1) := by decide +kernel
theorem d_X7_workOut_164 : decode c_X7_workOut 164 = .ok (.iload 4, 2) := by decide +kernel
theorem d_X7_workOut_166 : decode c_X7_workOut 166 = .ok (.aload_n 0, 1) := by decide +kernel
theorem d_X7_workOut_167 : decode c_X7_workOut 167 = .ok (.getfield 70, 3) := by decide +kernel
theorem d_X7_workOut_170 : decode c_X7_workOut 170 = .ok (.aload_n 0, 1) := by decide +kernel
theorem d_X7_workOut_171 : decode c_X7_workOut 171 = .ok (.getfield 23, 3) := by decide +kernel
theorem d_X7_workOut_174 : decode c_X7_workOut 174 = .ok (.iload_n 2, 1) := by decide +kernel
theorem d_X7_workOut_175 : decode c_X7_workOut 175 = .ok (.iaload, 1) := by decide +kernel
theorem d_X7_workOut_176 : decode c_X7_workOut 176 = .ok (.laload, 1) := by decide +kernel
theorem d_X7_workOut_177 : decode c_X7_workOut 177 = .ok (.invokevirtual 131, 3) := by decide +kernel
theorem d_X7_workOut_180 : decode c_X7_workOut 180 = .ok (.lreturn, 1) := by decide +kernel
theorem d_X7_workOut_181 : decode c_X7_workOut 181 = .ok (.aload_n 0, 1) := by decide +kernel
theorem d_X7_workOut_182 : decode c_X7_workOut 182 = .ok (.getfield 70, 3) := by decide +kernel
theorem d_X7_workOut_185 : decode c_X7_workOut 185 = .ok (.iload 4, 2) := by decide +kernel
theorem d_X7_workOut_187 : decode c_X7_workOut 187 = .ok (.laload, 1) := by decide +kernel
theorem d_X7_workOut_188 : decode c_X7_workOut 188 = .ok (.lstore 5, 2) := by decide +kernel
theorem d_X7_workOut_190 : decode c_X7_workOut 190 = .ok (.iload_n 3, 1) := by decide +kernel
theorem d_X7_workOut_191 : decode c_X7_workOut 191 = .ok (.bipush 12, 2) := by decide +kernel
theorem d_X7_workOut_193 : decode c_X7_workOut 193 = .ok (.if_icmp .ne 7, 3) := by decide +kernel
theorem d_X7_workOut_196 : decode c_X7_workOut 196 = .ok (.lconst 0, 1) := by decide +kernel
theorem d_X7_workOut_197 : decode c_X7_workOut 197 = .ok (.goto 14, 3) := by decide +kernel
theorem d_X7_workOut_200 : decode c_X7_workOut 200 = .ok (.aload_n 0, 1) := by decide +kernel
theorem d_X7_workOut_201 : decode c_X7_workOut 201 = .ok (.getfield 70, 3) := by decide +kernel
theorem d_X7_workOut_204 : decode c_X7_workOut 204 = .ok (.aload_n 0, 1) := by decide +kernel
theorem d_X7_workOut_205 : decode c_X7_workOut 205 = .ok (.getfield 23, 3) := by decide +kernel
theorem d_X7_workOut_208 : decode c_X7_workOut 208 = .ok (.iload_n 2, 1) := by decide +kernel
theorem d_X7_workOut_209 : decode c_X7_workOut 209 = .ok (.iaload, 1) := by decide +kernel
theorem d_X7_workOut_210 : decode c_X7_workOut 210 = .ok (.laload, 1) := by decide +kernel
theorem d_X7_workOut_211 : decode c_X7_workOut 211 = .ok (.lstore 7, 2) := by decide +kernel
theorem d_X7_workOut_213 : decode c_X7_workOut 213 = .ok (.iload_n 3, 1) := by decide +kernel
theorem d_X7_workOut_214 : decode c_X7_workOut 214 = .ok (.bipush 11, 2) := by decide +kernel
theorem d_X7_workOut_216 : decode c_X7_workOut 216 = .ok (.if_icmp .ne 17, 3) := by decide +kernel
theorem d_X7_workOut_219 : decode c_X7_workOut 219 = .ok (.aload_n 0, 1) := by decide +kernel
theorem d_X7_workOut_220 : decode c_X7_workOut 220 = .ok (.getfield 70, 3) := by decide +kernel
theorem d_X7_workOut_223 : decode c_X7_workOut 223 = .ok (.aload_n 0, 1) := by decide +kernel
theorem d_X7_workOut_224 : decode c_X7_workOut 224 = .ok (.getfield 26, 3) := by decide +kernel
theorem d_X7_workOut_227 : decode c_X7_workOut 227 = .ok (.iload_n 2, 1) := by decide +kernel
theorem d_X7_workOut_228 : decode c_X7_workOut 228 = .ok (.iaload, 1) := by decide +kernel
theorem d_X7_workOut_229 : decode c_X7_workOut 229 = .ok (.laload, 1) := by decide +kernel
theorem d_X7_workOut_230 : decode c_X7_workOut 230 = .ok (.goto 4, 3) := by decide +kernel
theorem d_X7_workOut_233 : decode c_X7_workOut 233 = .ok (.lconst 1, 1) := by decide +kernel
theorem d_X7_workOut_234 : decode c_X7_workOut 234 = .ok (.lstore 9, 2) := by decide +kernel
theorem d_X7_workOut_236 : decode c_X7_workOut 236 = .ok (.aload_n 0, 1) := by decide +kernel
theorem d_X7_workOut_237 : decode c_X7_workOut 237 = .ok (.lload 5, 2) := by decide +kernel
theorem d_X7_workOut_239 : decode c_X7_workOut 239 = .ok (.invokevirtual 124, 3) := by decide +kernel
theorem d_X7_workOut_242 : decode c_X7_workOut 242 = .ok (.lconst 0, 1) := by decide +kernel
theorem d_X7_workOut_243 : decode c_X7_workOut 243 = .ok (.lcmp, 1) := by decide +kernel
theorem d_X7_workOut_244 : decode c_X7_workOut 244 = .ok (.ifCond .eq 10, 3) := by decide +kernel
theorem d_X7_workOut_247 : decode c_X7_workOut 247 = .ok (.aload_n 0, 1) := by decide +kernel
theorem d_X7_workOut_248 : decode c_X7_workOut 248 = .ok (.lload 5, 2) := by decide +kernel
theorem d_X7_workOut_250 : decode c_X7_workOut 250 = .ok (.invokevirtual 124, 3) := by decide +kernel
theorem d_X7_workOut_253 : decode c_X7_workOut 253 = .ok (.lreturn, 1) := by decide +kernel
theorem d_X7_workOut_254 : decode c_X7_workOut 254 = .ok (.aload_n 0, 1) := by decide +kernel
theorem d_X7_workOut_255 : decode c_X7_workOut 255 = .ok (.lload 7, 2) := by decide +kernel
theorem d_X7_workOut_257 : decode c_X7_workOut 257 = .ok (.invokevirtual 124, 3) := by decide +kernel
theorem d_X7_workOut_260 : decode c_X7_workOut 260 = .ok (.lconst 0, 1) := by decide +kernel
theorem d_X7_workOut_261 : decode c_X7_workOut 261 = .ok (.lcmp, 1) := by decide +kernel
theorem d_X7_workOut_262 : decode c_X7_workOut 262 = .ok (.ifCond .eq 10, 3) := by decide +kernel
theorem d_X7_workOut_265 : decode c_X7_workOut 265 = .ok (.aload_n 0, 1) := by decide +kernel
theorem d_X7_workOut_266 : decode c_X7_workOut 266 = .ok (.lload 7, 2) := by decide +kernel
theorem d_X7_workOut_268 : decode c_X7_workOut 268 = .ok (.invokevirtual 124, 3) := by decide +kernel
theorem d_X7_workOut_271 : decode c_X7_workOut 271 = .ok (.lreturn, 1) := by decide +kernel
theorem d_X7_workOut_272 : decode c_X7_workOut 272 = .ok (.aload_n 0, 1) := by decide +kernel
theorem d_X7_workOut_273 : decode c_X7_workOut 273 = .ok (.lload 9, 2) := by decide +kernel
theorem d_X7_workOut_275 : decode c_X7_workOut 275 = .ok (.invokevirtual 124, 3) := by decide +kernel
theorem d_X7_workOut_278 : decode c_X7_workOut 278 = .ok (.lconst 0, 1) := by decide +kernel
theorem d_X7_workOut_279 : decode c_X7_workOut 279 = .ok (.lcmp, 1) := by decide +kernel
theorem d_X7_workOut_280 : decode c_X7_workOut 280 = .ok (.ifCond .eq 10, 3) := by decide +kernel
theorem d_X7_workOut_283 : decode c_X7_workOut 283 = .ok (.aload_n 0, 1) := by decide +kernel
theorem d_X7_workOut_284 : decode c_X7_workOut 284 = .ok (.lload 9, 2) := by decide +kernel
theorem d_X7_workOut_286 : decode c_X7_workOut 286 = .ok (.invokevirtual 124, 3) := by decide +kernel
theorem d_X7_workOut_289 : decode c_X7_workOut 289 = .ok (.lreturn, 1) := by decide +kernel
theorem d_X7_workOut_290 : decode c_X7_workOut 290 = .ok (.iload_n 3, 1) := by decide +kernel
theorem d_X7_workOut_291 : decode c_X7_workOut 291 = .ok (.bipush 12, 2) := by decide +kernel
theorem d_X7_workOut_293 : decode c_X7_workOut 293 = .ok (.if_icmp .ne 16, 3) := by decide +kernel
theorem d_X7_workOut_296 : decode c_X7_workOut 296 = .ok (.lload 5, 2) := by decide +kernel
theorem d_X7_workOut_298 : decode c_X7_workOut 298 = .ok (.lconst 0, 1) := by decide +kernel
theorem d_X7_workOut_299 : decode c_X7_workOut 299 = .ok (.lcmp, 1) := by decide +kernel
theorem d_X7_workOut_300 : decode c_X7_workOut 300 = .ok (.ifCond .ne 7, 3) := by decide +kernel
theorem d_X7_workOut_303 : decode c_X7_workOut 303 = .ok (.lconst 1, 1) := by decide +kernel
theorem d_X7_workOut_304 : decode c_X7_workOut 304 = .ok (.goto 4, 3) := by decide +kernel
theorem d_X7_workOut_307 : decode c_X7_workOut 307 = .ok (.lconst 0, 1) := by decide +kernel
theorem d_X7_workOut_308 : decode c_X7_workOut 308 = .ok (.lreturn, 1) := by decide +kernel
theorem d_X7_workOut_309 : decode c_X7_workOut 309 = .ok (.iload_n 3, 1) := by decide +kernel
theorem d_X7_workOut_310 : decode c_X7_workOut 310 = .ok (.bipush 11, 2) := by decide +kernel
theorem d_X7_workOut_312 : decode c_X7_workOut 312 = .ok (.if_icmp .ne 32, 3) := by decide +kernel
theorem d_X7_workOut_315 : decode c_X7_workOut 315 = .ok (.lload 9, 2) := by decide +kernel
theorem d_X7_workOut_317 : decode c_X7_workOut 317 = .ok (.lconst 0, 1) := by decide +kernel
theorem d_X7_workOut_318 : decode c_X7_workOut 318 = .ok (.lcmp, 1) := by decide +kernel
theorem d_X7_workOut_319 : decode c_X7_workOut 319 = .ok (.ifCond .ne 9, 3) := by decide +kernel
theorem d_X7_workOut_322 : decode c_X7_workOut 322 = .ok (.ldc2_w 135, 3) := by decide +kernel
theorem d_X7_workOut_325 : decode c_X7_workOut 325 = .ok (.goto 18, 3) := by decide +kernel
theorem d_X7_workOut_328 : decode c_X7_workOut 328 = .ok (.aload_n 0, 1) := by decide +kernel
theorem d_X7_workOut_329 : decode c_X7_workOut 329 = .ok (.aload_n 0, 1) := by decide +kernel
theorem d_X7_workOut_330 : decode c_X7_workOut 330 = .ok (.lload 5, 2) := by decide +kernel
theorem d_X7_workOut_332 : decode c_X7_workOut 332 = .ok (.lload 7, 2) := by decide +kernel
theorem d_X7_workOut_334 : decode c_X7_workOut 334 = .ok (.lmul, 1) := by decide +kernel
theorem d_X7_workOut_335 : decode c_X7_workOut 335 = .ok (.lload 9, 2) := by decide +kernel
theorem d_X7_workOut_337 : decode c_X7_workOut 337 = .ok (.invokevirtual 114, 3) := by decide +kernel
theorem d_X7_workOut_340 : decode c_X7_workOut 340 = .ok (.invokevirtual 118, 3) := by decide +kernel
theorem d_X7_workOut_343 : decode c_X7_workOut 343 = .ok (.lreturn, 1) := by decide +kernel
theorem d_X7_workOut_344 : decode c_X7_workOut 344 = .ok (.aload_n 0, 1) := by decide +kernel
theorem d_X7_workOut_345 : decode c_X7_workOut 345 = .ok (.iload_n 3, 1) := by decide +kernel
theorem d_X7_workOut_346 : decode c_X7_workOut 346 = .ok (.lload 5, 2) := by decide +kernel
theorem d_X7_workOut_348 : decode c_X7_workOut 348 = .ok (.lload 7, 2) := by decide +kernel
theorem d_X7_workOut_350 : decode c_X7_workOut 350 = .ok (.invokevirtual 137, 3) := by decide +kernel
theorem d_X7_workOut_353 : decode c_X7_workOut 353 = .ok (.lreturn, 1) := by decide +kernel
theorem d_X7_person_0 : decode c_X7_person 0 = .ok (.iconst 0, 1) := by decide +kernel
theorem d_X7_person_1 : decode c_X7_person 1 = .ok (.istore_n 2, 1) := by decide +kernel
theorem d_X7_person_2 : decode c_X7_person 2 = .ok (.iload_n 2, 1) := by decide +kernel
theorem d_X7_person_3 : decode c_X7_person 3 = .ok (.bipush 8, 2) := by decide +kernel
theorem d_X7_person_5 : decode c_X7_person 5 = .ok (.if_icmp .ge 18, 3) := by decide +kernel
theorem d_X7_person_8 : decode c_X7_person 8 = .ok (.aload_n 0, 1) := by decide +kernel
theorem d_X7_person_9 : decode c_X7_person 9 = .ok (.getfield 73, 3) := by decide +kernel
theorem d_X7_person_12 : decode c_X7_person 12 = .ok (.iload_n 2, 1) := by decide +kernel
theorem d_X7_person_13 : decode c_X7_person 13 = .ok (.ldc2_w 106, 3) := by decide +kernel
theorem d_X7_person_16 : decode c_X7_person 16 = .ok (.lastore, 1) := by decide +kernel
theorem d_X7_person_17 : decode c_X7_person 17 = .ok (.iinc 2 1, 3) := by decide +kernel
theorem d_X7_person_20 : decode c_X7_person 20 = .ok (.goto (-18), 3) := by decide +kernel
theorem d_X7_person_23 : decode c_X7_person 23 = .ok (.iconst 0, 1) := by decide +kernel
theorem d_X7_person_24 : decode c_X7_person 24 = .ok (.istore_n 2, 1) := by decide +kernel
theorem d_X7_person_25 : decode c_X7_person 25 = .ok (.iload_n 2, 1) := by decide +kernel
theorem d_X7_person_26 : decode c_X7_person 26 = .ok (.bipush 8, 2) := by decide +kernel
theorem d_X7_person_28 : decode c_X7_person 28 = .ok (.if_icmp .gt 69, 3) := by decide +kernel
theorem d_X7_person_31 : decode c_X7_person 31 = .ok (.iconst 0, 1) := by decide +kernel
theorem d_X7_person_32 : decode c_X7_person 32 = .ok (.istore_n 3, 1) := by decide +kernel
theorem d_X7_person_33 : decode c_X7_person 33 = .ok (.iload_n 3, 1) := by decide +kernel
theorem d_X7_person_34 : decode c_X7_person 34 = .ok (.aload_n 0, 1) := by decide +kernel
theorem d_X7_person_35 : decode c_X7_person 35 = .ok (.getfield 7, 3) := by decide +kernel
theorem d_X7_person_38 : decode c_X7_person 38 = .ok (.if_icmp .ge 21, 3) := by decide +kernel
theorem d_X7_person_41 : decode c_X7_person 41 = .ok (.aload_n 0, 1) := by decide +kernel
theorem d_X7_person_42 : decode c_X7_person 42 = .ok (.getfield 70, 3) := by decide +kernel
theorem d_X7_person_45 : decode c_X7_person 45 = .ok (.iload_n 3, 1) := by decide +kernel
theorem d_X7_person_46 : decode c_X7_person 46 = .ok (.aload_n 0, 1) := by decide +kernel
theorem d_X7_person_47 : decode c_X7_person 47 = .ok (.iload_n 1, 1) := by decide +kernel
theorem d_X7_person_48 : decode c_X7_person 48 = .ok (.iload_n 3, 1) := by decide +kernel
theorem d_X7_person_49 : decode c_X7_person 49 = .ok (.invokevirtual 141, 3) := by decide +kernel
theorem d_X7_person_52 : decode c_X7_person 52 = .ok (.lastore, 1) := by decide +kernel
theorem d_X7_person_53 : decode c_X7_person 53 = .ok (.iinc 3 1, 3) := by decide +kernel
theorem d_X7_person_56 : decode c_X7_person 56 = .ok (.goto (-23), 3) := by decide +kernel
theorem d_X7_person_59 : decode c_X7_person 59 = .ok (.iload_n 2, 1) := by decide +kernel
theorem d_X7_person_60 : decode c_X7_person 60 = .ok (.bipush 8, 2) := by decide +kernel
theorem d_X7_person_62 : decode c_X7_person 62 = .ok (.if_icmp .ge 29, 3) := by decide +kernel
theorem d_X7_person_65 : decode c_X7_person 65 = .ok (.aload_n 0, 1) := by decide +kernel
theorem d_X7_person_66 : decode c_X7_person 66 = .ok (.getfield 35, 3) := by decide +kernel
theorem d_X7_person_69 : decode c_X7_person 69 = .ok (.iload_n 2, 1) := by decide +kernel
theorem d_X7_person_70 : decode c_X7_person 70 = .ok (.iaload, 1) := by decide +kernel
theorem d_X7_person_71 : decode c_X7_person 71 = .ok (.ifCond .lt 20, 3) := by decide +kernel
theorem d_X7_person_74 : decode c_X7_person 74 = .ok (.aload_n 0, 1) := by decide +kernel
theorem d_X7_person_75 : decode c_X7_person 75 = .ok (.getfield 73, 3) := by decide +kernel
theorem d_X7_person_78 : decode c_X7_person 78 = .ok (.iload_n 2, 1) := by decide +kernel
theorem d_X7_person_79 : decode c_X7_person 79 = .ok (.aload_n 0, 1) := by decide +kernel
theorem d_X7_person_80 : decode c_X7_person 80 = .ok (.getfield 70, 3) := by decide +kernel
theorem d_X7_person_83 : decode c_X7_person 83 = .ok (.aload_n 0, 1) := by decide +kernel
theorem d_X7_person_84 : decode c_X7_person 84 = .ok (.getfield 35, 3) := by decide +kernel
theorem d_X7_person_87 : decode c_X7_person 87 = .ok (.iload_n 2, 1) := by decide +kernel
theorem d_X7_person_88 : decode c_X7_person 88 = .ok (.iaload, 1) := by decide +kernel
theorem d_X7_person_89 : decode c_X7_person 89 = .ok (.laload, 1) := by decide +kernel
theorem d_X7_person_90 : decode c_X7_person 90 = .ok (.lastore, 1) := by decide +kernel
theorem d_X7_person_91 : decode c_X7_person 91 = .ok (.iinc 2 1, 3) := by decide +kernel
theorem d_X7_person_94 : decode c_X7_person 94 = .ok (.goto (-69), 3) := by decide +kernel
theorem d_X7_person_97 : decode c_X7_person 97 = .ok (.return_, 1) := by decide +kernel
theorem d_X7_paidWhole_0 : decode c_X7_paidWhole 0 = .ok (.aload_n 0, 1) := by decide +kernel
theorem d_X7_paidWhole_1 : decode c_X7_paidWhole 1 = .ok (.aload_n 0, 1) := by decide +kernel
theorem d_X7_paidWhole_2 : decode c_X7_paidWhole 2 = .ok (.getfield 67, 3) := by decide +kernel
theorem d_X7_paidWhole_5 : decode c_X7_paidWhole 5 = .ok (.iload_n 1, 1) := by decide +kernel
theorem d_X7_paidWhole_6 : decode c_X7_paidWhole 6 = .ok (.iconst 2, 1) := by decide +kernel
theorem d_X7_paidWhole_7 : decode c_X7_paidWhole 7 = .ok (.imul, 1) := by decide +kernel
theorem d_X7_paidWhole_8 : decode c_X7_paidWhole 8 = .ok (.laload, 1) := by decide +kernel
theorem d_X7_paidWhole_9 : decode c_X7_paidWhole 9 = .ok (.invokevirtual 100, 3) := by decide +kernel
theorem d_X7_paidWhole_12 : decode c_X7_paidWhole 12 = .ok (.ifCond .eq 24, 3) := by decide +kernel
theorem d_X7_paidWhole_15 : decode c_X7_paidWhole 15 = .ok (.aload_n 0, 1) := by decide +kernel
theorem d_X7_paidWhole_16 : decode c_X7_paidWhole 16 = .ok (.aload_n 0, 1) := by decide +kernel
theorem d_X7_paidWhole_17 : decode c_X7_paidWhole 17 = .ok (.getfield 67, 3) := by decide +kernel
theorem d_X7_paidWhole_20 : decode c_X7_paidWhole 20 = .ok (.iload_n 1, 1) := by decide +kernel
theorem d_X7_paidWhole_21 : decode c_X7_paidWhole 21 = .ok (.iconst 2, 1) := by decide +kernel
theorem d_X7_paidWhole_22 : decode c_X7_paidWhole 22 = .ok (.imul, 1) := by decide +kernel
theorem d_X7_paidWhole_23 : decode c_X7_paidWhole 23 = .ok (.iconst 1, 1) := by decide +kernel
theorem d_X7_paidWhole_24 : decode c_X7_paidWhole 24 = .ok (.iadd, 1) := by decide +kernel
theorem d_X7_paidWhole_25 : decode c_X7_paidWhole 25 = .ok (.laload, 1) := by decide +kernel
theorem d_X7_paidWhole_26 : decode c_X7_paidWhole 26 = .ok (.invokevirtual 100, 3) := by decide +kernel
theorem d_X7_paidWhole_29 : decode c_X7_paidWhole 29 = .ok (.ifCond .eq 7, 3) := by decide +kernel
theorem d_X7_paidWhole_32 : decode c_X7_paidWhole 32 = .ok (.iconst 1, 1) := by decide +kernel
theorem d_X7_paidWhole_33 : decode c_X7_paidWhole 33 = .ok (.goto 4, 3) := by decide +kernel
theorem d_X7_paidWhole_36 : decode c_X7_paidWhole 36 = .ok (.iconst 0, 1) := by decide +kernel
theorem d_X7_paidWhole_37 : decode c_X7_paidWhole 37 = .ok (.ireturn, 1) := by decide +kernel
theorem d_X7_value_0 : decode c_X7_value 0 = .ok (.aload_n 0, 1) := by decide +kernel
theorem d_X7_value_1 : decode c_X7_value 1 = .ok (.iload_n 1, 1) := by decide +kernel
theorem d_X7_value_2 : decode c_X7_value 2 = .ok (.iconst 0, 1) := by decide +kernel
theorem d_X7_value_3 : decode c_X7_value 3 = .ok (.iconst 5, 1) := by decide +kernel
theorem d_X7_value_4 : decode c_X7_value 4 = .ok (.invokevirtual 76, 3) := by decide +kernel
theorem d_X7_value_7 : decode c_X7_value 7 = .ok (.ifCond .ne 19, 3) := by decide +kernel
theorem d_X7_value_10 : decode c_X7_value 10 = .ok (.aload_n 0, 1) := by decide +kernel
theorem d_X7_value_11 : decode c_X7_value 11 = .ok (.iload_n 2, 1) := by decide +kernel
theorem d_X7_value_12 : decode c_X7_value 12 = .ok (.invokevirtual 84, 3) := by decide +kernel
theorem d_X7_value_15 : decode c_X7_value 15 = .ok (.ifCond .eq 11, 3) := by decide +kernel
theorem d_X7_value_18 : decode c_X7_value 18 = .ok (.aload_n 0, 1) := by decide +kernel
theorem d_X7_value_19 : decode c_X7_value 19 = .ok (.iload_n 1, 1) := by decide +kernel
theorem d_X7_value_20 : decode c_X7_value 20 = .ok (.invokevirtual 144, 3) := by decide +kernel
theorem d_X7_value_23 : decode c_X7_value 23 = .ok (.ifCond .ne 7, 3) := by decide +kernel
theorem d_X7_value_26 : decode c_X7_value 26 = .ok (.ldc2_w 147, 3) := by decide +kernel
theorem d_X7_value_29 : decode c_X7_value 29 = .ok (.lreturn, 1) := by decide +kernel
theorem d_X7_value_30 : decode c_X7_value 30 = .ok (.aload_n 0, 1) := by decide +kernel
theorem d_X7_value_31 : decode c_X7_value 31 = .ok (.iload_n 1, 1) := by decide +kernel
theorem d_X7_value_32 : decode c_X7_value 32 = .ok (.invokevirtual 149, 3) := by decide +kernel
theorem d_X7_value_35 : decode c_X7_value 35 = .ok (.aload_n 0, 1) := by decide +kernel
theorem d_X7_value_36 : decode c_X7_value 36 = .ok (.getfield 70, 3) := by decide +kernel
theorem d_X7_value_39 : decode c_X7_value 39 = .ok (.iload_n 2, 1) := by decide +kernel
theorem d_X7_value_40 : decode c_X7_value 40 = .ok (.laload, 1) := by decide +kernel
theorem d_X7_value_41 : decode c_X7_value 41 = .ok (.lreturn, 1) := by decide +kernel
theorem d_X7_payOne_0 : decode c_X7_payOne 0 = .ok (.aload_n 0, 1) := by decide +kernel
theorem d_X7_payOne_1 : decode c_X7_payOne 1 = .ok (.iload_n 2, 1) := by decide +kernel
theorem d_X7_payOne_2 : decode c_X7_payOne 2 = .ok (.invokevirtual 144, 3) := by decide +kernel
theorem d_X7_payOne_5 : decode c_X7_payOne 5 = .ok (.ifCond .ne 6, 3) := by decide +kernel
theorem d_X7_payOne_8 : decode c_X7_payOne 8 = .ok (.bipush 6, 2) := by decide +kernel
theorem d_X7_payOne_10 : decode c_X7_payOne 10 = .ok (.ireturn, 1) := by decide +kernel
theorem d_X7_payOne_11 : decode c_X7_payOne 11 = .ok (.aload_n 0, 1) := by decide +kernel
theorem d_X7_payOne_12 : decode c_X7_payOne 12 = .ok (.iload_n 2, 1) := by decide +kernel
theorem d_X7_payOne_13 : decode c_X7_payOne 13 = .ok (.invokevirtual 149, 3) := by decide +kernel
theorem d_X7_payOne_16 : decode c_X7_payOne 16 = .ok (.iconst 0, 1) := by decide +kernel
theorem d_X7_payOne_17 : decode c_X7_payOne 17 = .ok (.istore_n 3, 1) := by decide +kernel
theorem d_X7_payOne_18 : decode c_X7_payOne 18 = .ok (.iload_n 3, 1) := by decide +kernel
theorem d_X7_payOne_19 : decode c_X7_payOne 19 = .ok (.iconst 3, 1) := by decide +kernel
theorem d_X7_payOne_20 : decode c_X7_payOne 20 = .ok (.if_icmp .ge 49, 3) := by decide +kernel
theorem d_X7_payOne_23 : decode c_X7_payOne 23 = .ok (.aload_n 0, 1) := by decide +kernel
theorem d_X7_payOne_24 : decode c_X7_payOne 24 = .ok (.getfield 73, 3) := by decide +kernel
theorem d_X7_payOne_27 : decode c_X7_payOne 27 = .ok (.iload_n 3, 1) := by decide +kernel
theorem d_X7_payOne_28 : decode c_X7_payOne 28 = .ok (.laload, 1) := by decide +kernel
theorem d_X7_payOne_29 : decode c_X7_payOne 29 = .ok (.ldc2_w 110, 3) := by decide +kernel
theorem d_X7_payOne_32 : decode c_X7_payOne 32 = .ok (.lcmp, 1) := by decide +kernel
theorem d_X7_payOne_33 : decode c_X7_payOne 33 = .ok (.ifCond .le 15, 3) := by decide +kernel
theorem d_X7_payOne_36 : decode c_X7_payOne 36 = .ok (.aload_n 0, 1) := by decide +kernel
theorem d_X7_payOne_37 : decode c_X7_payOne 37 = .ok (.getfield 73, 3) := by decide +kernel
theorem d_X7_payOne_40 : decode c_X7_payOne 40 = .ok (.iload_n 3, 1) := by decide +kernel
theorem d_X7_payOne_41 : decode c_X7_payOne 41 = .ok (.laload, 1) := by decide +kernel
theorem d_X7_payOne_42 : decode c_X7_payOne 42 = .ok (.ldc2_w 110, 3) := by decide +kernel
theorem d_X7_payOne_45 : decode c_X7_payOne 45 = .ok (.lsub, 1) := by decide +kernel
theorem d_X7_payOne_46 : decode c_X7_payOne 46 = .ok (.l2i, 1) := by decide +kernel
theorem d_X7_payOne_47 : decode c_X7_payOne 47 = .ok (.ireturn, 1) := by decide +kernel
theorem d_X7_payOne_48 : decode c_X7_payOne 48 = .ok (.aload_n 0, 1) := by decide +kernel
theorem d_X7_payOne_49 : decode c_X7_payOne 49 = .ok (.getfield 73, 3) := by decide +kernel
theorem d_X7_payOne_52 : decode c_X7_payOne 52 = .ok (.iload_n 3, 1) := by decide +kernel
theorem d_X7_payOne_53 : decode c_X7_payOne 53 = .ok (.laload, 1) := by decide +kernel
theorem d_X7_payOne_54 : decode c_X7_payOne 54 = .ok (.ldc2_w 106, 3) := by decide +kernel
theorem d_X7_payOne_57 : decode c_X7_payOne 57 = .ok (.lcmp, 1) := by decide +kernel
theorem d_X7_payOne_58 : decode c_X7_payOne 58 = .ok (.ifCond .ne 5, 3) := by decide +kernel
theorem d_X7_payOne_61 : decode c_X7_payOne 61 = .ok (.iconst 2, 1) := by decide +kernel
theorem d_X7_payOne_62 : decode c_X7_payOne 62 = .ok (.ireturn, 1) := by decide +kernel
theorem d_X7_payOne_63 : decode c_X7_payOne 63 = .ok (.iinc 3 1, 3) := by decide +kernel
theorem d_X7_payOne_66 : decode c_X7_payOne 66 = .ok (.goto (-48), 3) := by decide +kernel
theorem d_X7_payOne_69 : decode c_X7_payOne 69 = .ok (.aload_n 0, 1) := by decide +kernel
theorem d_X7_payOne_70 : decode c_X7_payOne 70 = .ok (.getfield 73, 3) := by decide +kernel
theorem d_X7_payOne_73 : decode c_X7_payOne 73 = .ok (.iconst 0, 1) := by decide +kernel
theorem d_X7_payOne_74 : decode c_X7_payOne 74 = .ok (.laload, 1) := by decide +kernel
theorem d_X7_payOne_75 : decode c_X7_payOne 75 = .ok (.aload_n 0, 1) := by decide +kernel
theorem d_X7_payOne_76 : decode c_X7_payOne 76 = .ok (.getfield 73, 3) := by decide +kernel
theorem d_X7_payOne_79 : decode c_X7_payOne 79 = .ok (.iconst 1, 1) := by decide +kernel
theorem d_X7_payOne_80 : decode c_X7_payOne 80 = .ok (.laload, 1) := by decide +kernel
theorem d_X7_payOne_81 : decode c_X7_payOne 81 = .ok (.lsub, 1) := by decide +kernel
theorem d_X7_payOne_82 : decode c_X7_payOne 82 = .ok (.aload_n 0, 1) := by decide +kernel
theorem d_X7_payOne_83 : decode c_X7_payOne 83 = .ok (.getfield 73, 3) := by decide +kernel
theorem d_X7_payOne_86 : decode c_X7_payOne 86 = .ok (.iconst 2, 1) := by decide +kernel
theorem d_X7_payOne_87 : decode c_X7_payOne 87 = .ok (.laload, 1) := by decide +kernel
theorem d_X7_payOne_88 : decode c_X7_payOne 88 = .ok (.lcmp, 1) := by decide +kernel
theorem d_X7_payOne_89 : decode c_X7_payOne 89 = .ok (.ifCond .eq 5, 3) := by decide +kernel
theorem d_X7_payOne_92 : decode c_X7_payOne 92 = .ok (.iconst 5, 1) := by decide +kernel
theorem d_X7_payOne_93 : decode c_X7_payOne 93 = .ok (.ireturn, 1) := by decide +kernel
theorem d_X7_payOne_94 : decode c_X7_payOne 94 = .ok (.aload_n 0, 1) := by decide +kernel
theorem d_X7_payOne_95 : decode c_X7_payOne 95 = .ok (.aload_n 0, 1) := by decide +kernel
theorem d_X7_payOne_96 : decode c_X7_payOne 96 = .ok (.getfield 67, 3) := by decide +kernel
theorem d_X7_payOne_99 : decode c_X7_payOne 99 = .ok (.iload_n 2, 1) := by decide +kernel
theorem d_X7_payOne_100 : decode c_X7_payOne 100 = .ok (.iconst 2, 1) := by decide +kernel
theorem d_X7_payOne_101 : decode c_X7_payOne 101 = .ok (.imul, 1) := by decide +kernel
theorem d_X7_payOne_102 : decode c_X7_payOne 102 = .ok (.laload, 1) := by decide +kernel
theorem d_X7_payOne_103 : decode c_X7_payOne 103 = .ok (.aload_n 0, 1) := by decide +kernel
theorem d_X7_payOne_104 : decode c_X7_payOne 104 = .ok (.getfield 73, 3) := by decide +kernel
theorem d_X7_payOne_107 : decode c_X7_payOne 107 = .ok (.iconst 0, 1) := by decide +kernel
theorem d_X7_payOne_108 : decode c_X7_payOne 108 = .ok (.laload, 1) := by decide +kernel
theorem d_X7_payOne_109 : decode c_X7_payOne 109 = .ok (.ladd, 1) := by decide +kernel
theorem d_X7_payOne_110 : decode c_X7_payOne 110 = .ok (.invokevirtual 100, 3) := by decide +kernel
theorem d_X7_payOne_113 : decode c_X7_payOne 113 = .ok (.ifCond .eq 27, 3) := by decide +kernel
theorem d_X7_payOne_116 : decode c_X7_payOne 116 = .ok (.aload_n 0, 1) := by decide +kernel
theorem d_X7_payOne_117 : decode c_X7_payOne 117 = .ok (.aload_n 0, 1) := by decide +kernel
theorem d_X7_payOne_118 : decode c_X7_payOne 118 = .ok (.getfield 67, 3) := by decide +kernel
theorem d_X7_payOne_121 : decode c_X7_payOne 121 = .ok (.iload_n 2, 1) := by decide +kernel
theorem d_X7_payOne_122 : decode c_X7_payOne 122 = .ok (.iconst 2, 1) := by decide +kernel
theorem d_X7_payOne_123 : decode c_X7_payOne 123 = .ok (.imul, 1) := by decide +kernel
theorem d_X7_payOne_124 : decode c_X7_payOne 124 = .ok (.iconst 1, 1) := by decide +kernel
theorem d_X7_payOne_125 : decode c_X7_payOne 125 = .ok (.iadd, 1) := by decide +kernel
theorem d_X7_payOne_126 : decode c_X7_payOne 126 = .ok (.laload, 1) := by decide +kernel
theorem d_X7_payOne_127 : decode c_X7_payOne 127 = .ok (.aload_n 0, 1) := by decide +kernel
theorem d_X7_payOne_128 : decode c_X7_payOne 128 = .ok (.getfield 73, 3) := by decide +kernel
theorem d_X7_payOne_131 : decode c_X7_payOne 131 = .ok (.iconst 1, 1) := by decide +kernel
theorem d_X7_payOne_132 : decode c_X7_payOne 132 = .ok (.laload, 1) := by decide +kernel
theorem d_X7_payOne_133 : decode c_X7_payOne 133 = .ok (.ladd, 1) := by decide +kernel
theorem d_X7_payOne_134 : decode c_X7_payOne 134 = .ok (.invokevirtual 100, 3) := by decide +kernel
theorem d_X7_payOne_137 : decode c_X7_payOne 137 = .ok (.ifCond .ne 6, 3) := by decide +kernel
theorem d_X7_payOne_140 : decode c_X7_payOne 140 = .ok (.bipush 6, 2) := by decide +kernel
theorem d_X7_payOne_142 : decode c_X7_payOne 142 = .ok (.ireturn, 1) := by decide +kernel
theorem d_X7_payOne_143 : decode c_X7_payOne 143 = .ok (.iconst 0, 1) := by decide +kernel
theorem d_X7_payOne_144 : decode c_X7_payOne 144 = .ok (.istore_n 3, 1) := by decide +kernel
theorem d_X7_payOne_145 : decode c_X7_payOne 145 = .ok (.iload_n 3, 1) := by decide +kernel
theorem d_X7_payOne_146 : decode c_X7_payOne 146 = .ok (.iconst 3, 1) := by decide +kernel
theorem d_X7_payOne_147 : decode c_X7_payOne 147 = .ok (.if_icmp .ge 30, 3) := by decide +kernel
theorem d_X7_payOne_150 : decode c_X7_payOne 150 = .ok (.aload_n 0, 1) := by decide +kernel
theorem d_X7_payOne_151 : decode c_X7_payOne 151 = .ok (.getfield 63, 3) := by decide +kernel
theorem d_X7_payOne_154 : decode c_X7_payOne 154 = .ok (.iload_n 1, 1) := by decide +kernel
theorem d_X7_payOne_155 : decode c_X7_payOne 155 = .ok (.bipush 6, 2) := by decide +kernel
theorem d_X7_payOne_157 : decode c_X7_payOne 157 = .ok (.imul, 1) := by decide +kernel
theorem d_X7_payOne_158 : decode c_X7_payOne 158 = .ok (.iload_n 2, 1) := by decide +kernel
theorem d_X7_payOne_159 : decode c_X7_payOne 159 = .ok (.iadd, 1) := by decide +kernel
theorem d_X7_payOne_160 : decode c_X7_payOne 160 = .ok (.iconst 3, 1) := by decide +kernel
theorem d_X7_payOne_161 : decode c_X7_payOne 161 = .ok (.imul, 1) := by decide +kernel
theorem d_X7_payOne_162 : decode c_X7_payOne 162 = .ok (.iload_n 3, 1) := by decide +kernel
theorem d_X7_payOne_163 : decode c_X7_payOne 163 = .ok (.iadd, 1) := by decide +kernel
theorem d_X7_payOne_164 : decode c_X7_payOne 164 = .ok (.aload_n 0, 1) := by decide +kernel
theorem d_X7_payOne_165 : decode c_X7_payOne 165 = .ok (.getfield 73, 3) := by decide +kernel
theorem d_X7_payOne_168 : decode c_X7_payOne 168 = .ok (.iload_n 3, 1) := by decide +kernel
theorem d_X7_payOne_169 : decode c_X7_payOne 169 = .ok (.laload, 1) := by decide +kernel
theorem d_X7_payOne_170 : decode c_X7_payOne 170 = .ok (.lastore, 1) := by decide +kernel
theorem d_X7_payOne_171 : decode c_X7_payOne 171 = .ok (.iinc 3 1, 3) := by decide +kernel
theorem d_X7_payOne_174 : decode c_X7_payOne 174 = .ok (.goto (-29), 3) := by decide +kernel
theorem d_X7_payOne_177 : decode c_X7_payOne 177 = .ok (.aload_n 0, 1) := by decide +kernel
theorem d_X7_payOne_178 : decode c_X7_payOne 178 = .ok (.getfield 57, 3) := by decide +kernel
theorem d_X7_payOne_181 : decode c_X7_payOne 181 = .ok (.iload_n 1, 1) := by decide +kernel
theorem d_X7_payOne_182 : decode c_X7_payOne 182 = .ok (.bipush 6, 2) := by decide +kernel
theorem d_X7_payOne_184 : decode c_X7_payOne 184 = .ok (.imul, 1) := by decide +kernel
theorem d_X7_payOne_185 : decode c_X7_payOne 185 = .ok (.iload_n 2, 1) := by decide +kernel
theorem d_X7_payOne_186 : decode c_X7_payOne 186 = .ok (.iadd, 1) := by decide +kernel
theorem d_X7_payOne_187 : decode c_X7_payOne 187 = .ok (.iconst 1, 1) := by decide +kernel
theorem d_X7_payOne_188 : decode c_X7_payOne 188 = .ok (.bastore, 1) := by decide +kernel
theorem d_X7_payOne_189 : decode c_X7_payOne 189 = .ok (.aload_n 0, 1) := by decide +kernel
theorem d_X7_payOne_190 : decode c_X7_payOne 190 = .ok (.getfield 67, 3) := by decide +kernel
theorem d_X7_payOne_193 : decode c_X7_payOne 193 = .ok (.iload_n 2, 1) := by decide +kernel
theorem d_X7_payOne_194 : decode c_X7_payOne 194 = .ok (.iconst 2, 1) := by decide +kernel
theorem d_X7_payOne_195 : decode c_X7_payOne 195 = .ok (.imul, 1) := by decide +kernel
theorem d_X7_payOne_196 : decode c_X7_payOne 196 = .ok (.dup2, 1) := by decide +kernel
theorem d_X7_payOne_197 : decode c_X7_payOne 197 = .ok (.laload, 1) := by decide +kernel
theorem d_X7_payOne_198 : decode c_X7_payOne 198 = .ok (.aload_n 0, 1) := by decide +kernel
theorem d_X7_payOne_199 : decode c_X7_payOne 199 = .ok (.getfield 73, 3) := by decide +kernel
theorem d_X7_payOne_202 : decode c_X7_payOne 202 = .ok (.iconst 0, 1) := by decide +kernel
theorem d_X7_payOne_203 : decode c_X7_payOne 203 = .ok (.laload, 1) := by decide +kernel
theorem d_X7_payOne_204 : decode c_X7_payOne 204 = .ok (.ladd, 1) := by decide +kernel
theorem d_X7_payOne_205 : decode c_X7_payOne 205 = .ok (.lastore, 1) := by decide +kernel
theorem d_X7_payOne_206 : decode c_X7_payOne 206 = .ok (.aload_n 0, 1) := by decide +kernel
theorem d_X7_payOne_207 : decode c_X7_payOne 207 = .ok (.getfield 67, 3) := by decide +kernel
theorem d_X7_payOne_210 : decode c_X7_payOne 210 = .ok (.iload_n 2, 1) := by decide +kernel
theorem d_X7_payOne_211 : decode c_X7_payOne 211 = .ok (.iconst 2, 1) := by decide +kernel
theorem d_X7_payOne_212 : decode c_X7_payOne 212 = .ok (.imul, 1) := by decide +kernel
theorem d_X7_payOne_213 : decode c_X7_payOne 213 = .ok (.iconst 1, 1) := by decide +kernel
theorem d_X7_payOne_214 : decode c_X7_payOne 214 = .ok (.iadd, 1) := by decide +kernel
theorem d_X7_payOne_215 : decode c_X7_payOne 215 = .ok (.dup2, 1) := by decide +kernel
theorem d_X7_payOne_216 : decode c_X7_payOne 216 = .ok (.laload, 1) := by decide +kernel
theorem d_X7_payOne_217 : decode c_X7_payOne 217 = .ok (.aload_n 0, 1) := by decide +kernel
theorem d_X7_payOne_218 : decode c_X7_payOne 218 = .ok (.getfield 73, 3) := by decide +kernel
theorem d_X7_payOne_221 : decode c_X7_payOne 221 = .ok (.iconst 1, 1) := by decide +kernel
theorem d_X7_payOne_222 : decode c_X7_payOne 222 = .ok (.laload, 1) := by decide +kernel
theorem d_X7_payOne_223 : decode c_X7_payOne 223 = .ok (.ladd, 1) := by decide +kernel
theorem d_X7_payOne_224 : decode c_X7_payOne 224 = .ok (.lastore, 1) := by decide +kernel
theorem d_X7_payOne_225 : decode c_X7_payOne 225 = .ok (.iconst 0, 1) := by decide +kernel
theorem d_X7_payOne_226 : decode c_X7_payOne 226 = .ok (.ireturn, 1) := by decide +kernel
theorem d_X7_payAll_0 : decode c_X7_payAll 0 = .ok (.aload_n 0, 1) := by decide +kernel
theorem d_X7_payAll_1 : decode c_X7_payAll 1 = .ok (.getfield 54, 3) := by decide +kernel
theorem d_X7_payAll_4 : decode c_X7_payAll 4 = .ok (.iload_n 1, 1) := by decide +kernel
theorem d_X7_payAll_5 : decode c_X7_payAll 5 = .ok (.iconst 0, 1) := by decide +kernel
theorem d_X7_payAll_6 : decode c_X7_payAll 6 = .ok (.bastore, 1) := by decide +kernel
theorem d_X7_payAll_7 : decode c_X7_payAll 7 = .ok (.iconst 0, 1) := by decide +kernel
theorem d_X7_payAll_8 : decode c_X7_payAll 8 = .ok (.istore_n 2, 1) := by decide +kernel
theorem d_X7_payAll_9 : decode c_X7_payAll 9 = .ok (.iload_n 2, 1) := by decide +kernel
theorem d_X7_payAll_10 : decode c_X7_payAll 10 = .ok (.bipush 6, 2) := by decide +kernel
theorem d_X7_payAll_12 : decode c_X7_payAll 12 = .ok (.if_icmp .ge 51, 3) := by decide +kernel
theorem d_X7_payAll_15 : decode c_X7_payAll 15 = .ok (.aload_n 0, 1) := by decide +kernel
theorem d_X7_payAll_16 : decode c_X7_payAll 16 = .ok (.getfield 57, 3) := by decide +kernel
theorem d_X7_payAll_19 : decode c_X7_payAll 19 = .ok (.iload_n 1, 1) := by decide +kernel
theorem d_X7_payAll_20 : decode c_X7_payAll 20 = .ok (.bipush 6, 2) := by decide +kernel
theorem d_X7_payAll_22 : decode c_X7_payAll 22 = .ok (.imul, 1) := by decide +kernel
theorem d_X7_payAll_23 : decode c_X7_payAll 23 = .ok (.iload_n 2, 1) := by decide +kernel
theorem d_X7_payAll_24 : decode c_X7_payAll 24 = .ok (.iadd, 1) := by decide +kernel
theorem d_X7_payAll_25 : decode c_X7_payAll 25 = .ok (.iconst 0, 1) := by decide +kernel
theorem d_X7_payAll_26 : decode c_X7_payAll 26 = .ok (.bastore, 1) := by decide +kernel
theorem d_X7_payAll_27 : decode c_X7_payAll 27 = .ok (.aload_n 0, 1) := by decide +kernel
theorem d_X7_payAll_28 : decode c_X7_payAll 28 = .ok (.getfield 60, 3) := by decide +kernel
theorem d_X7_payAll_31 : decode c_X7_payAll 31 = .ok (.iload_n 1, 1) := by decide +kernel
theorem d_X7_payAll_32 : decode c_X7_payAll 32 = .ok (.bipush 6, 2) := by decide +kernel
theorem d_X7_payAll_34 : decode c_X7_payAll 34 = .ok (.imul, 1) := by decide +kernel
theorem d_X7_payAll_35 : decode c_X7_payAll 35 = .ok (.iload_n 2, 1) := by decide +kernel
theorem d_X7_payAll_36 : decode c_X7_payAll 36 = .ok (.iadd, 1) := by decide +kernel
theorem d_X7_payAll_37 : decode c_X7_payAll 37 = .ok (.aload_n 0, 1) := by decide +kernel
theorem d_X7_payAll_38 : decode c_X7_payAll 38 = .ok (.getfield 50, 3) := by decide +kernel
theorem d_X7_payAll_41 : decode c_X7_payAll 41 = .ok (.iload_n 2, 1) := by decide +kernel
theorem d_X7_payAll_42 : decode c_X7_payAll 42 = .ok (.baload, 1) := by decide +kernel
theorem d_X7_payAll_43 : decode c_X7_payAll 43 = .ok (.ifCond .eq 12, 3) := by decide +kernel
theorem d_X7_payAll_46 : decode c_X7_payAll 46 = .ok (.aload_n 0, 1) := by decide +kernel
theorem d_X7_payAll_47 : decode c_X7_payAll 47 = .ok (.iload_n 1, 1) := by decide +kernel
theorem d_X7_payAll_48 : decode c_X7_payAll 48 = .ok (.iload_n 2, 1) := by decide +kernel
theorem d_X7_payAll_49 : decode c_X7_payAll 49 = .ok (.invokevirtual 153, 3) := by decide +kernel
theorem d_X7_payAll_52 : decode c_X7_payAll 52 = .ok (.goto 4, 3) := by decide +kernel
theorem d_X7_payAll_55 : decode c_X7_payAll 55 = .ok (.iconst 0, 1) := by decide +kernel
theorem d_X7_payAll_56 : decode c_X7_payAll 56 = .ok (.iastore, 1) := by decide +kernel
theorem d_X7_payAll_57 : decode c_X7_payAll 57 = .ok (.iinc 2 1, 3) := by decide +kernel
theorem d_X7_payAll_60 : decode c_X7_payAll 60 = .ok (.goto (-51), 3) := by decide +kernel
theorem d_X7_payAll_63 : decode c_X7_payAll 63 = .ok (.return_, 1) := by decide +kernel
theorem d_X7_pay_0 : decode c_X7_pay 0 = .ok (.aload_n 0, 1) := by decide +kernel
theorem d_X7_pay_1 : decode c_X7_pay 1 = .ok (.getfield 13, 3) := by decide +kernel
theorem d_X7_pay_4 : decode c_X7_pay 4 = .ok (.bipush 16, 2) := by decide +kernel
theorem d_X7_pay_6 : decode c_X7_pay 6 = .ok (.if_icmp .ne 6, 3) := by decide +kernel
theorem d_X7_pay_9 : decode c_X7_pay 9 = .ok (.bipush (-2), 2) := by decide +kernel
theorem d_X7_pay_11 : decode c_X7_pay 11 = .ok (.ireturn, 1) := by decide +kernel
theorem d_X7_pay_12 : decode c_X7_pay 12 = .ok (.aload_n 0, 1) := by decide +kernel
theorem d_X7_pay_13 : decode c_X7_pay 13 = .ok (.aload_n 0, 1) := by decide +kernel
theorem d_X7_pay_14 : decode c_X7_pay 14 = .ok (.getfield 13, 3) := by decide +kernel
theorem d_X7_pay_17 : decode c_X7_pay 17 = .ok (.invokevirtual 157, 3) := by decide +kernel
theorem d_X7_pay_20 : decode c_X7_pay 20 = .ok (.aload_n 0, 1) := by decide +kernel
theorem d_X7_pay_21 : decode c_X7_pay 21 = .ok (.dup, 1) := by decide +kernel
theorem d_X7_pay_22 : decode c_X7_pay 22 = .ok (.getfield 13, 3) := by decide +kernel
theorem d_X7_pay_25 : decode c_X7_pay 25 = .ok (.iconst 1, 1) := by decide +kernel
theorem d_X7_pay_26 : decode c_X7_pay 26 = .ok (.iadd, 1) := by decide +kernel
theorem d_X7_pay_27 : decode c_X7_pay 27 = .ok (.putfield 13, 3) := by decide +kernel
theorem d_X7_pay_30 : decode c_X7_pay 30 = .ok (.aload_n 0, 1) := by decide +kernel
theorem d_X7_pay_31 : decode c_X7_pay 31 = .ok (.getfield 13, 3) := by decide +kernel
theorem d_X7_pay_34 : decode c_X7_pay 34 = .ok (.iconst 1, 1) := by decide +kernel
theorem d_X7_pay_35 : decode c_X7_pay 35 = .ok (.isub, 1) := by decide +kernel
theorem d_X7_pay_36 : decode c_X7_pay 36 = .ok (.ireturn, 1) := by decide +kernel
theorem d_X7_takeBack_0 : decode c_X7_takeBack 0 = .ok (.aload_n 0, 1) := by decide +kernel
theorem d_X7_takeBack_1 : decode c_X7_takeBack 1 = .ok (.getfield 54, 3) := by decide +kernel
theorem d_X7_takeBack_4 : decode c_X7_takeBack 4 = .ok (.iload_n 1, 1) := by decide +kernel
theorem d_X7_takeBack_5 : decode c_X7_takeBack 5 = .ok (.iconst 1, 1) := by decide +kernel
theorem d_X7_takeBack_6 : decode c_X7_takeBack 6 = .ok (.bastore, 1) := by decide +kernel
theorem d_X7_takeBack_7 : decode c_X7_takeBack 7 = .ok (.iconst 0, 1) := by decide +kernel
theorem d_X7_takeBack_8 : decode c_X7_takeBack 8 = .ok (.istore_n 2, 1) := by decide +kernel
theorem d_X7_takeBack_9 : decode c_X7_takeBack 9 = .ok (.iload_n 2, 1) := by decide +kernel
theorem d_X7_takeBack_10 : decode c_X7_takeBack 10 = .ok (.bipush 6, 2) := by decide +kernel
theorem d_X7_takeBack_12 : decode c_X7_takeBack 12 = .ok (.if_icmp .ge 64, 3) := by decide +kernel
theorem d_X7_takeBack_15 : decode c_X7_takeBack 15 = .ok (.iconst 0, 1) := by decide +kernel
theorem d_X7_takeBack_16 : decode c_X7_takeBack 16 = .ok (.istore_n 3, 1) := by decide +kernel
theorem d_X7_takeBack_17 : decode c_X7_takeBack 17 = .ok (.iload_n 3, 1) := by decide +kernel
theorem d_X7_takeBack_18 : decode c_X7_takeBack 18 = .ok (.iconst 2, 1) := by decide +kernel
theorem d_X7_takeBack_19 : decode c_X7_takeBack 19 = .ok (.if_icmp .ge 51, 3) := by decide +kernel
theorem d_X7_takeBack_22 : decode c_X7_takeBack 22 = .ok (.aload_n 0, 1) := by decide +kernel
theorem d_X7_takeBack_23 : decode c_X7_takeBack 23 = .ok (.getfield 57, 3) := by decide +kernel
theorem d_X7_takeBack_26 : decode c_X7_takeBack 26 = .ok (.iload_n 1, 1) := by decide +kernel
theorem d_X7_takeBack_27 : decode c_X7_takeBack 27 = .ok (.bipush 6, 2) := by decide +kernel
theorem d_X7_takeBack_29 : decode c_X7_takeBack 29 = .ok (.imul, 1) := by decide +kernel
theorem d_X7_takeBack_30 : decode c_X7_takeBack 30 = .ok (.iload_n 2, 1) := by decide +kernel
theorem d_X7_takeBack_31 : decode c_X7_takeBack 31 = .ok (.iadd, 1) := by decide +kernel
theorem d_X7_takeBack_32 : decode c_X7_takeBack 32 = .ok (.baload, 1) := by decide +kernel
theorem d_X7_takeBack_33 : decode c_X7_takeBack 33 = .ok (.ifCond .eq 37, 3) := by decide +kernel
theorem d_X7_takeBack_36 : decode c_X7_takeBack 36 = .ok (.aload_n 0, 1) := by decide +kernel
theorem d_X7_takeBack_37 : decode c_X7_takeBack 37 = .ok (.getfield 67, 3) := by decide +kernel
theorem d_X7_takeBack_40 : decode c_X7_takeBack 40 = .ok (.iload_n 2, 1) := by decide +kernel
theorem d_X7_takeBack_41 : decode c_X7_takeBack 41 = .ok (.iconst 2, 1) := by decide +kernel
theorem d_X7_takeBack_42 : decode c_X7_takeBack 42 = .ok (.imul, 1) := by decide +kernel
theorem d_X7_takeBack_43 : decode c_X7_takeBack 43 = .ok (.iload_n 3, 1) := by decide +kernel
theorem d_X7_takeBack_44 : decode c_X7_takeBack 44 = .ok (.iadd, 1) := by decide +kernel
theorem d_X7_takeBack_45 : decode c_X7_takeBack 45 = .ok (.dup2, 1) := by decide +kernel
theorem d_X7_takeBack_46 : decode c_X7_takeBack 46 = .ok (.laload, 1) := by decide +kernel
theorem d_X7_takeBack_47 : decode c_X7_takeBack 47 = .ok (.aload_n 0, 1) := by decide +kernel
theorem d_X7_takeBack_48 : decode c_X7_takeBack 48 = .ok (.getfield 63, 3) := by decide +kernel
theorem d_X7_takeBack_51 : decode c_X7_takeBack 51 = .ok (.iload_n 1, 1) := by decide +kernel
theorem d_X7_takeBack_52 : decode c_X7_takeBack 52 = .ok (.bipush 6, 2) := by decide +kernel
theorem d_X7_takeBack_54 : decode c_X7_takeBack 54 = .ok (.imul, 1) := by decide +kernel
theorem d_X7_takeBack_55 : decode c_X7_takeBack 55 = .ok (.iload_n 2, 1) := by decide +kernel
theorem d_X7_takeBack_56 : decode c_X7_takeBack 56 = .ok (.iadd, 1) := by decide +kernel
theorem d_X7_takeBack_57 : decode c_X7_takeBack 57 = .ok (.iconst 3, 1) := by decide +kernel
theorem d_X7_takeBack_58 : decode c_X7_takeBack 58 = .ok (.imul, 1) := by decide +kernel
theorem d_X7_takeBack_59 : decode c_X7_takeBack 59 = .ok (.iload_n 3, 1) := by decide +kernel
theorem d_X7_takeBack_60 : decode c_X7_takeBack 60 = .ok (.iadd, 1) := by decide +kernel
theorem d_X7_takeBack_61 : decode c_X7_takeBack 61 = .ok (.laload, 1) := by decide +kernel
theorem d_X7_takeBack_62 : decode c_X7_takeBack 62 = .ok (.lsub, 1) := by decide +kernel
theorem d_X7_takeBack_63 : decode c_X7_takeBack 63 = .ok (.lastore, 1) := by decide +kernel
theorem d_X7_takeBack_64 : decode c_X7_takeBack 64 = .ok (.iinc 3 1, 3) := by decide +kernel
theorem d_X7_takeBack_67 : decode c_X7_takeBack 67 = .ok (.goto (-50), 3) := by decide +kernel
theorem d_X7_takeBack_70 : decode c_X7_takeBack 70 = .ok (.iinc 2 1, 3) := by decide +kernel
theorem d_X7_takeBack_73 : decode c_X7_takeBack 73 = .ok (.goto (-64), 3) := by decide +kernel
theorem d_X7_takeBack_76 : decode c_X7_takeBack 76 = .ok (.return_, 1) := by decide +kernel
theorem d_X7_back_0 : decode c_X7_back 0 = .ok (.iload_n 1, 1) := by decide +kernel
theorem d_X7_back_1 : decode c_X7_back 1 = .ok (.ifCond .lt 20, 3) := by decide +kernel
theorem d_X7_back_4 : decode c_X7_back 4 = .ok (.iload_n 1, 1) := by decide +kernel
theorem d_X7_back_5 : decode c_X7_back 5 = .ok (.aload_n 0, 1) := by decide +kernel
theorem d_X7_back_6 : decode c_X7_back 6 = .ok (.getfield 13, 3) := by decide +kernel
theorem d_X7_back_9 : decode c_X7_back 9 = .ok (.if_icmp .ge 12, 3) := by decide +kernel
theorem d_X7_back_12 : decode c_X7_back 12 = .ok (.aload_n 0, 1) := by decide +kernel
theorem d_X7_back_13 : decode c_X7_back 13 = .ok (.getfield 54, 3) := by decide +kernel
theorem d_X7_back_16 : decode c_X7_back 16 = .ok (.iload_n 1, 1) := by decide +kernel
theorem d_X7_back_17 : decode c_X7_back 17 = .ok (.baload, 1) := by decide +kernel
theorem d_X7_back_18 : decode c_X7_back 18 = .ok (.ifCond .eq 5, 3) := by decide +kernel
theorem d_X7_back_21 : decode c_X7_back 21 = .ok (.iconst (-1), 1) := by decide +kernel
theorem d_X7_back_22 : decode c_X7_back 22 = .ok (.ireturn, 1) := by decide +kernel
theorem d_X7_back_23 : decode c_X7_back 23 = .ok (.aload_n 0, 1) := by decide +kernel
theorem d_X7_back_24 : decode c_X7_back 24 = .ok (.iload_n 1, 1) := by decide +kernel
theorem d_X7_back_25 : decode c_X7_back 25 = .ok (.invokevirtual 160, 3) := by decide +kernel
theorem d_X7_back_28 : decode c_X7_back 28 = .ok (.iconst 0, 1) := by decide +kernel
theorem d_X7_back_29 : decode c_X7_back 29 = .ok (.ireturn, 1) := by decide +kernel
theorem d_X7_slips_0 : decode c_X7_slips 0 = .ok (.iconst 0, 1) := by decide +kernel
theorem d_X7_slips_1 : decode c_X7_slips 1 = .ok (.istore_n 2, 1) := by decide +kernel
theorem d_X7_slips_2 : decode c_X7_slips 2 = .ok (.iconst 0, 1) := by decide +kernel
theorem d_X7_slips_3 : decode c_X7_slips 3 = .ok (.istore_n 3, 1) := by decide +kernel
theorem d_X7_slips_4 : decode c_X7_slips 4 = .ok (.iload_n 3, 1) := by decide +kernel
theorem d_X7_slips_5 : decode c_X7_slips 5 = .ok (.bipush 6, 2) := by decide +kernel
theorem d_X7_slips_7 : decode c_X7_slips 7 = .ok (.if_icmp .ge 26, 3) := by decide +kernel
theorem d_X7_slips_10 : decode c_X7_slips 10 = .ok (.aload_n 0, 1) := by decide +kernel
theorem d_X7_slips_11 : decode c_X7_slips 11 = .ok (.getfield 57, 3) := by decide +kernel
theorem d_X7_slips_14 : decode c_X7_slips 14 = .ok (.iload_n 1, 1) := by decide +kernel
theorem d_X7_slips_15 : decode c_X7_slips 15 = .ok (.bipush 6, 2) := by decide +kernel
theorem d_X7_slips_17 : decode c_X7_slips 17 = .ok (.imul, 1) := by decide +kernel
theorem d_X7_slips_18 : decode c_X7_slips 18 = .ok (.iload_n 3, 1) := by decide +kernel
theorem d_X7_slips_19 : decode c_X7_slips 19 = .ok (.iadd, 1) := by decide +kernel
theorem d_X7_slips_20 : decode c_X7_slips 20 = .ok (.baload, 1) := by decide +kernel
theorem d_X7_slips_21 : decode c_X7_slips 21 = .ok (.ifCond .eq 6, 3) := by decide +kernel
theorem d_X7_slips_24 : decode c_X7_slips 24 = .ok (.iinc 2 1, 3) := by decide +kernel
theorem d_X7_slips_27 : decode c_X7_slips 27 = .ok (.iinc 3 1, 3) := by decide +kernel
theorem d_X7_slips_30 : decode c_X7_slips 30 = .ok (.goto (-26), 3) := by decide +kernel
theorem d_X7_slips_33 : decode c_X7_slips 33 = .ok (.iload_n 2, 1) := by decide +kernel
theorem d_X7_slips_34 : decode c_X7_slips 34 = .ok (.ireturn, 1) := by decide +kernel
theorem d_X7_again_0 : decode c_X7_again 0 = .ok (.iload_n 1, 1) := by decide +kernel
end
section
theorem d_X7_again_1 : decode c_X7_again 1 = .ok (.ifCond .lt 22, 3) := by decide +kernel
theorem d_X7_again_4 : decode c_X7_again 4 = .ok (.iload_n 1, 1) := by decide +kernel
theorem d_X7_again_5 : decode c_X7_again 5 = .ok (.aload_n 0, 1) := by decide +kernel
theorem d_X7_again_6 : decode c_X7_again 6 = .ok (.getfield 13, 3) := by decide +kernel
theorem d_X7_again_9 : decode c_X7_again 9 = .ok (.iconst 1, 1) := by decide +kernel
theorem d_X7_again_10 : decode c_X7_again 10 = .ok (.isub, 1) := by decide +kernel
theorem d_X7_again_11 : decode c_X7_again 11 = .ok (.if_icmp .ne 12, 3) := by decide +kernel
theorem d_X7_again_14 : decode c_X7_again 14 = .ok (.aload_n 0, 1) := by decide +kernel
theorem d_X7_again_15 : decode c_X7_again 15 = .ok (.getfield 54, 3) := by decide +kernel
theorem d_X7_again_18 : decode c_X7_again 18 = .ok (.iload_n 1, 1) := by decide +kernel
theorem d_X7_again_19 : decode c_X7_again 19 = .ok (.baload, 1) := by decide +kernel
theorem d_X7_again_20 : decode c_X7_again 20 = .ok (.ifCond .eq 5, 3) := by decide +kernel
theorem d_X7_again_23 : decode c_X7_again 23 = .ok (.iconst (-1), 1) := by decide +kernel
theorem d_X7_again_24 : decode c_X7_again 24 = .ok (.ireturn, 1) := by decide +kernel
theorem d_X7_again_25 : decode c_X7_again 25 = .ok (.aload_n 0, 1) := by decide +kernel
theorem d_X7_again_26 : decode c_X7_again 26 = .ok (.iload_n 1, 1) := by decide +kernel
theorem d_X7_again_27 : decode c_X7_again 27 = .ok (.invokevirtual 160, 3) := by decide +kernel
theorem d_X7_again_30 : decode c_X7_again 30 = .ok (.aload_n 0, 1) := by decide +kernel
theorem d_X7_again_31 : decode c_X7_again 31 = .ok (.iload_n 1, 1) := by decide +kernel
theorem d_X7_again_32 : decode c_X7_again 32 = .ok (.invokevirtual 157, 3) := by decide +kernel
theorem d_X7_again_35 : decode c_X7_again 35 = .ok (.aload_n 0, 1) := by decide +kernel
theorem d_X7_again_36 : decode c_X7_again 36 = .ok (.iload_n 1, 1) := by decide +kernel
theorem d_X7_again_37 : decode c_X7_again 37 = .ok (.invokevirtual 163, 3) := by decide +kernel
theorem d_X7_again_40 : decode c_X7_again 40 = .ok (.ireturn, 1) := by decide +kernel
theorem d_X7_slip_0 : decode c_X7_slip 0 = .ok (.iload_n 1, 1) := by decide +kernel
theorem d_X7_slip_1 : decode c_X7_slip 1 = .ok (.ifCond .lt 45, 3) := by decide +kernel
theorem d_X7_slip_4 : decode c_X7_slip 4 = .ok (.iload_n 1, 1) := by decide +kernel
theorem d_X7_slip_5 : decode c_X7_slip 5 = .ok (.aload_n 0, 1) := by decide +kernel
theorem d_X7_slip_6 : decode c_X7_slip 6 = .ok (.getfield 13, 3) := by decide +kernel
theorem d_X7_slip_9 : decode c_X7_slip 9 = .ok (.if_icmp .ge 37, 3) := by decide +kernel
theorem d_X7_slip_12 : decode c_X7_slip 12 = .ok (.aload_n 0, 1) := by decide +kernel
theorem d_X7_slip_13 : decode c_X7_slip 13 = .ok (.iload_n 2, 1) := by decide +kernel
theorem d_X7_slip_14 : decode c_X7_slip 14 = .ok (.iconst 0, 1) := by decide +kernel
theorem d_X7_slip_15 : decode c_X7_slip 15 = .ok (.iconst 5, 1) := by decide +kernel
theorem d_X7_slip_16 : decode c_X7_slip 16 = .ok (.invokevirtual 76, 3) := by decide +kernel
theorem d_X7_slip_19 : decode c_X7_slip 19 = .ok (.ifCond .ne 27, 3) := by decide +kernel
theorem d_X7_slip_22 : decode c_X7_slip 22 = .ok (.aload_n 0, 1) := by decide +kernel
theorem d_X7_slip_23 : decode c_X7_slip 23 = .ok (.iload_n 3, 1) := by decide +kernel
theorem d_X7_slip_24 : decode c_X7_slip 24 = .ok (.iconst 0, 1) := by decide +kernel
theorem d_X7_slip_25 : decode c_X7_slip 25 = .ok (.iconst 2, 1) := by decide +kernel
theorem d_X7_slip_26 : decode c_X7_slip 26 = .ok (.invokevirtual 76, 3) := by decide +kernel
theorem d_X7_slip_29 : decode c_X7_slip 29 = .ok (.ifCond .ne 17, 3) := by decide +kernel
theorem d_X7_slip_32 : decode c_X7_slip 32 = .ok (.aload_n 0, 1) := by decide +kernel
theorem d_X7_slip_33 : decode c_X7_slip 33 = .ok (.getfield 57, 3) := by decide +kernel
theorem d_X7_slip_36 : decode c_X7_slip 36 = .ok (.iload_n 1, 1) := by decide +kernel
theorem d_X7_slip_37 : decode c_X7_slip 37 = .ok (.bipush 6, 2) := by decide +kernel
theorem d_X7_slip_39 : decode c_X7_slip 39 = .ok (.imul, 1) := by decide +kernel
theorem d_X7_slip_40 : decode c_X7_slip 40 = .ok (.iload_n 2, 1) := by decide +kernel
theorem d_X7_slip_41 : decode c_X7_slip 41 = .ok (.iadd, 1) := by decide +kernel
theorem d_X7_slip_42 : decode c_X7_slip 42 = .ok (.baload, 1) := by decide +kernel
theorem d_X7_slip_43 : decode c_X7_slip 43 = .ok (.ifCond .ne 7, 3) := by decide +kernel
theorem d_X7_slip_46 : decode c_X7_slip 46 = .ok (.ldc2_w 147, 3) := by decide +kernel
theorem d_X7_slip_49 : decode c_X7_slip 49 = .ok (.lreturn, 1) := by decide +kernel
theorem d_X7_slip_50 : decode c_X7_slip 50 = .ok (.aload_n 0, 1) := by decide +kernel
theorem d_X7_slip_51 : decode c_X7_slip 51 = .ok (.getfield 63, 3) := by decide +kernel
theorem d_X7_slip_54 : decode c_X7_slip 54 = .ok (.iload_n 1, 1) := by decide +kernel
theorem d_X7_slip_55 : decode c_X7_slip 55 = .ok (.bipush 6, 2) := by decide +kernel
theorem d_X7_slip_57 : decode c_X7_slip 57 = .ok (.imul, 1) := by decide +kernel
theorem d_X7_slip_58 : decode c_X7_slip 58 = .ok (.iload_n 2, 1) := by decide +kernel
theorem d_X7_slip_59 : decode c_X7_slip 59 = .ok (.iadd, 1) := by decide +kernel
theorem d_X7_slip_60 : decode c_X7_slip 60 = .ok (.iconst 3, 1) := by decide +kernel
theorem d_X7_slip_61 : decode c_X7_slip 61 = .ok (.imul, 1) := by decide +kernel
theorem d_X7_slip_62 : decode c_X7_slip 62 = .ok (.iload_n 3, 1) := by decide +kernel
theorem d_X7_slip_63 : decode c_X7_slip 63 = .ok (.iadd, 1) := by decide +kernel
theorem d_X7_slip_64 : decode c_X7_slip 64 = .ok (.laload, 1) := by decide +kernel
theorem d_X7_slip_65 : decode c_X7_slip 65 = .ok (.lreturn, 1) := by decide +kernel
theorem d_X7_held_0 : decode c_X7_held 0 = .ok (.iload_n 1, 1) := by decide +kernel
theorem d_X7_held_1 : decode c_X7_held 1 = .ok (.ifCond .lt 21, 3) := by decide +kernel
theorem d_X7_held_4 : decode c_X7_held 4 = .ok (.iload_n 1, 1) := by decide +kernel
theorem d_X7_held_5 : decode c_X7_held 5 = .ok (.aload_n 0, 1) := by decide +kernel
theorem d_X7_held_6 : decode c_X7_held 6 = .ok (.getfield 13, 3) := by decide +kernel
theorem d_X7_held_9 : decode c_X7_held 9 = .ok (.if_icmp .ge 13, 3) := by decide +kernel
theorem d_X7_held_12 : decode c_X7_held 12 = .ok (.aload_n 0, 1) := by decide +kernel
theorem d_X7_held_13 : decode c_X7_held 13 = .ok (.iload_n 2, 1) := by decide +kernel
theorem d_X7_held_14 : decode c_X7_held 14 = .ok (.iconst 0, 1) := by decide +kernel
theorem d_X7_held_15 : decode c_X7_held 15 = .ok (.iconst 5, 1) := by decide +kernel
theorem d_X7_held_16 : decode c_X7_held 16 = .ok (.invokevirtual 76, 3) := by decide +kernel
theorem d_X7_held_19 : decode c_X7_held 19 = .ok (.ifCond .eq 7, 3) := by decide +kernel
theorem d_X7_held_22 : decode c_X7_held 22 = .ok (.iconst (-1), 1) := by decide +kernel
theorem d_X7_held_23 : decode c_X7_held 23 = .ok (.goto 14, 3) := by decide +kernel
theorem d_X7_held_26 : decode c_X7_held 26 = .ok (.aload_n 0, 1) := by decide +kernel
theorem d_X7_held_27 : decode c_X7_held 27 = .ok (.getfield 60, 3) := by decide +kernel
theorem d_X7_held_30 : decode c_X7_held 30 = .ok (.iload_n 1, 1) := by decide +kernel
theorem d_X7_held_31 : decode c_X7_held 31 = .ok (.bipush 6, 2) := by decide +kernel
theorem d_X7_held_33 : decode c_X7_held 33 = .ok (.imul, 1) := by decide +kernel
theorem d_X7_held_34 : decode c_X7_held 34 = .ok (.iload_n 2, 1) := by decide +kernel
theorem d_X7_held_35 : decode c_X7_held 35 = .ok (.iadd, 1) := by decide +kernel
theorem d_X7_held_36 : decode c_X7_held 36 = .ok (.iaload, 1) := by decide +kernel
theorem d_X7_held_37 : decode c_X7_held 37 = .ok (.ireturn, 1) := by decide +kernel
theorem d_X7_account_0 : decode c_X7_account 0 = .ok (.aload_n 0, 1) := by decide +kernel
theorem d_X7_account_1 : decode c_X7_account 1 = .ok (.iload_n 1, 1) := by decide +kernel
theorem d_X7_account_2 : decode c_X7_account 2 = .ok (.iconst 0, 1) := by decide +kernel
theorem d_X7_account_3 : decode c_X7_account 3 = .ok (.iconst 2, 1) := by decide +kernel
theorem d_X7_account_4 : decode c_X7_account 4 = .ok (.invokevirtual 76, 3) := by decide +kernel
theorem d_X7_account_7 : decode c_X7_account 7 = .ok (.ifCond .eq 7, 3) := by decide +kernel
theorem d_X7_account_10 : decode c_X7_account 10 = .ok (.ldc2_w 147, 3) := by decide +kernel
theorem d_X7_account_13 : decode c_X7_account 13 = .ok (.lreturn, 1) := by decide +kernel
theorem d_X7_account_14 : decode c_X7_account 14 = .ok (.lconst 0, 1) := by decide +kernel
theorem d_X7_account_15 : decode c_X7_account 15 = .ok (.lstore_n 2, 1) := by decide +kernel
theorem d_X7_account_16 : decode c_X7_account 16 = .ok (.iconst 0, 1) := by decide +kernel
theorem d_X7_account_17 : decode c_X7_account 17 = .ok (.istore 4, 2) := by decide +kernel
theorem d_X7_account_19 : decode c_X7_account 19 = .ok (.iload 4, 2) := by decide +kernel
theorem d_X7_account_21 : decode c_X7_account 21 = .ok (.aload_n 0, 1) := by decide +kernel
theorem d_X7_account_22 : decode c_X7_account 22 = .ok (.getfield 13, 3) := by decide +kernel
theorem d_X7_account_25 : decode c_X7_account 25 = .ok (.if_icmp .ge 71, 3) := by decide +kernel
theorem d_X7_account_28 : decode c_X7_account 28 = .ok (.iconst 0, 1) := by decide +kernel
theorem d_X7_account_29 : decode c_X7_account 29 = .ok (.istore 5, 2) := by decide +kernel
theorem d_X7_account_31 : decode c_X7_account 31 = .ok (.iload 5, 2) := by decide +kernel
theorem d_X7_account_33 : decode c_X7_account 33 = .ok (.bipush 6, 2) := by decide +kernel
theorem d_X7_account_35 : decode c_X7_account 35 = .ok (.if_icmp .ge 55, 3) := by decide +kernel
theorem d_X7_account_38 : decode c_X7_account 38 = .ok (.aload_n 0, 1) := by decide +kernel
theorem d_X7_account_39 : decode c_X7_account 39 = .ok (.getfield 54, 3) := by decide +kernel
theorem d_X7_account_42 : decode c_X7_account 42 = .ok (.iload 4, 2) := by decide +kernel
theorem d_X7_account_44 : decode c_X7_account 44 = .ok (.baload, 1) := by decide +kernel
theorem d_X7_account_45 : decode c_X7_account 45 = .ok (.ifCond .ne 45, 3) := by decide +kernel
theorem d_X7_account_48 : decode c_X7_account 48 = .ok (.aload_n 0, 1) := by decide +kernel
theorem d_X7_account_49 : decode c_X7_account 49 = .ok (.getfield 57, 3) := by decide +kernel
theorem d_X7_account_52 : decode c_X7_account 52 = .ok (.iload 4, 2) := by decide +kernel
theorem d_X7_account_54 : decode c_X7_account 54 = .ok (.bipush 6, 2) := by decide +kernel
theorem d_X7_account_56 : decode c_X7_account 56 = .ok (.imul, 1) := by decide +kernel
theorem d_X7_account_57 : decode c_X7_account 57 = .ok (.iload 5, 2) := by decide +kernel
theorem d_X7_account_59 : decode c_X7_account 59 = .ok (.iadd, 1) := by decide +kernel
theorem d_X7_account_60 : decode c_X7_account 60 = .ok (.baload, 1) := by decide +kernel
theorem d_X7_account_61 : decode c_X7_account 61 = .ok (.ifCond .eq 23, 3) := by decide +kernel
theorem d_X7_account_64 : decode c_X7_account 64 = .ok (.lload_n 2, 1) := by decide +kernel
theorem d_X7_account_65 : decode c_X7_account 65 = .ok (.aload_n 0, 1) := by decide +kernel
theorem d_X7_account_66 : decode c_X7_account 66 = .ok (.getfield 63, 3) := by decide +kernel
theorem d_X7_account_69 : decode c_X7_account 69 = .ok (.iload 4, 2) := by decide +kernel
theorem d_X7_account_71 : decode c_X7_account 71 = .ok (.bipush 6, 2) := by decide +kernel
theorem d_X7_account_73 : decode c_X7_account 73 = .ok (.imul, 1) := by decide +kernel
theorem d_X7_account_74 : decode c_X7_account 74 = .ok (.iload 5, 2) := by decide +kernel
theorem d_X7_account_76 : decode c_X7_account 76 = .ok (.iadd, 1) := by decide +kernel
theorem d_X7_account_77 : decode c_X7_account 77 = .ok (.iconst 3, 1) := by decide +kernel
theorem d_X7_account_78 : decode c_X7_account 78 = .ok (.imul, 1) := by decide +kernel
theorem d_X7_account_79 : decode c_X7_account 79 = .ok (.iload_n 1, 1) := by decide +kernel
theorem d_X7_account_80 : decode c_X7_account 80 = .ok (.iadd, 1) := by decide +kernel
theorem d_X7_account_81 : decode c_X7_account 81 = .ok (.laload, 1) := by decide +kernel
theorem d_X7_account_82 : decode c_X7_account 82 = .ok (.ladd, 1) := by decide +kernel
theorem d_X7_account_83 : decode c_X7_account 83 = .ok (.lstore_n 2, 1) := by decide +kernel
theorem d_X7_account_84 : decode c_X7_account 84 = .ok (.iinc 5 1, 3) := by decide +kernel
theorem d_X7_account_87 : decode c_X7_account 87 = .ok (.goto (-56), 3) := by decide +kernel
theorem d_X7_account_90 : decode c_X7_account 90 = .ok (.iinc 4 1, 3) := by decide +kernel
theorem d_X7_account_93 : decode c_X7_account 93 = .ok (.goto (-74), 3) := by decide +kernel
theorem d_X7_account_96 : decode c_X7_account 96 = .ok (.iload_n 1, 1) := by decide +kernel
theorem d_X7_account_97 : decode c_X7_account 97 = .ok (.ifCond .ne 7, 3) := by decide +kernel
theorem d_X7_account_100 : decode c_X7_account 100 = .ok (.lload_n 2, 1) := by decide +kernel
theorem d_X7_account_101 : decode c_X7_account 101 = .ok (.goto 5, 3) := by decide +kernel
theorem d_X7_account_104 : decode c_X7_account 104 = .ok (.lload_n 2, 1) := by decide +kernel
theorem d_X7_account_105 : decode c_X7_account 105 = .ok (.lneg, 1) := by decide +kernel
theorem d_X7_account_106 : decode c_X7_account 106 = .ok (.lreturn, 1) := by decide +kernel
theorem d_X7_paid_0 : decode c_X7_paid 0 = .ok (.aload_n 0, 1) := by decide +kernel
theorem d_X7_paid_1 : decode c_X7_paid 1 = .ok (.iload_n 1, 1) := by decide +kernel
theorem d_X7_paid_2 : decode c_X7_paid 2 = .ok (.iconst 0, 1) := by decide +kernel
theorem d_X7_paid_3 : decode c_X7_paid 3 = .ok (.iconst 5, 1) := by decide +kernel
theorem d_X7_paid_4 : decode c_X7_paid 4 = .ok (.invokevirtual 76, 3) := by decide +kernel
theorem d_X7_paid_7 : decode c_X7_paid 7 = .ok (.ifCond .ne 13, 3) := by decide +kernel
theorem d_X7_paid_10 : decode c_X7_paid 10 = .ok (.aload_n 0, 1) := by decide +kernel
theorem d_X7_paid_11 : decode c_X7_paid 11 = .ok (.iload_n 2, 1) := by decide +kernel
theorem d_X7_paid_12 : decode c_X7_paid 12 = .ok (.iconst 0, 1) := by decide +kernel
theorem d_X7_paid_13 : decode c_X7_paid 13 = .ok (.iconst 1, 1) := by decide +kernel
theorem d_X7_paid_14 : decode c_X7_paid 14 = .ok (.invokevirtual 76, 3) := by decide +kernel
theorem d_X7_paid_17 : decode c_X7_paid 17 = .ok (.ifCond .eq 9, 3) := by decide +kernel
theorem d_X7_paid_20 : decode c_X7_paid 20 = .ok (.ldc2_w 147, 3) := by decide +kernel
theorem d_X7_paid_23 : decode c_X7_paid 23 = .ok (.goto 13, 3) := by decide +kernel
theorem d_X7_paid_26 : decode c_X7_paid 26 = .ok (.aload_n 0, 1) := by decide +kernel
theorem d_X7_paid_27 : decode c_X7_paid 27 = .ok (.getfield 67, 3) := by decide +kernel
theorem d_X7_paid_30 : decode c_X7_paid 30 = .ok (.iload_n 1, 1) := by decide +kernel
theorem d_X7_paid_31 : decode c_X7_paid 31 = .ok (.iconst 2, 1) := by decide +kernel
theorem d_X7_paid_32 : decode c_X7_paid 32 = .ok (.imul, 1) := by decide +kernel
theorem d_X7_paid_33 : decode c_X7_paid 33 = .ok (.iload_n 2, 1) := by decide +kernel
theorem d_X7_paid_34 : decode c_X7_paid 34 = .ok (.iadd, 1) := by decide +kernel
theorem d_X7_paid_35 : decode c_X7_paid 35 = .ok (.laload, 1) := by decide +kernel
theorem d_X7_paid_36 : decode c_X7_paid 36 = .ok (.lreturn, 1) := by decide +kernel
theorem d_X7_count_0 : decode c_X7_count 0 = .ok (.iconst 0, 1) := by decide +kernel
theorem d_X7_count_1 : decode c_X7_count 1 = .ok (.istore_n 2, 1) := by decide +kernel
theorem d_X7_count_2 : decode c_X7_count 2 = .ok (.iconst 0, 1) := by decide +kernel
theorem d_X7_count_3 : decode c_X7_count 3 = .ok (.istore_n 3, 1) := by decide +kernel
theorem d_X7_count_4 : decode c_X7_count 4 = .ok (.iconst 0, 1) := by decide +kernel
theorem d_X7_count_5 : decode c_X7_count 5 = .ok (.istore 4, 2) := by decide +kernel
theorem d_X7_count_7 : decode c_X7_count 7 = .ok (.iconst 0, 1) := by decide +kernel
theorem d_X7_count_8 : decode c_X7_count 8 = .ok (.istore 5, 2) := by decide +kernel
theorem d_X7_count_10 : decode c_X7_count 10 = .ok (.iconst 0, 1) := by decide +kernel
theorem d_X7_count_11 : decode c_X7_count 11 = .ok (.istore 6, 2) := by decide +kernel
theorem d_X7_count_13 : decode c_X7_count 13 = .ok (.iload 6, 2) := by decide +kernel
theorem d_X7_count_15 : decode c_X7_count 15 = .ok (.aload_n 0, 1) := by decide +kernel
theorem d_X7_count_16 : decode c_X7_count 16 = .ok (.getfield 13, 3) := by decide +kernel
theorem d_X7_count_19 : decode c_X7_count 19 = .ok (.if_icmp .ge 34, 3) := by decide +kernel
theorem d_X7_count_22 : decode c_X7_count 22 = .ok (.aload_n 0, 1) := by decide +kernel
theorem d_X7_count_23 : decode c_X7_count 23 = .ok (.getfield 54, 3) := by decide +kernel
theorem d_X7_count_26 : decode c_X7_count 26 = .ok (.iload 6, 2) := by decide +kernel
theorem d_X7_count_28 : decode c_X7_count 28 = .ok (.baload, 1) := by decide +kernel
theorem d_X7_count_29 : decode c_X7_count 29 = .ok (.ifCond .eq 9, 3) := by decide +kernel
theorem d_X7_count_32 : decode c_X7_count 32 = .ok (.iinc 2 1, 3) := by decide +kernel
theorem d_X7_count_35 : decode c_X7_count 35 = .ok (.goto 12, 3) := by decide +kernel
theorem d_X7_count_38 : decode c_X7_count 38 = .ok (.iload_n 3, 1) := by decide +kernel
theorem d_X7_count_39 : decode c_X7_count 39 = .ok (.aload_n 0, 1) := by decide +kernel
theorem d_X7_count_40 : decode c_X7_count 40 = .ok (.iload 6, 2) := by decide +kernel
theorem d_X7_count_42 : decode c_X7_count 42 = .ok (.invokevirtual 163, 3) := by decide +kernel
theorem d_X7_count_45 : decode c_X7_count 45 = .ok (.iadd, 1) := by decide +kernel
theorem d_X7_count_46 : decode c_X7_count 46 = .ok (.istore_n 3, 1) := by decide +kernel
theorem d_X7_count_47 : decode c_X7_count 47 = .ok (.iinc 6 1, 3) := by decide +kernel
theorem d_X7_count_50 : decode c_X7_count 50 = .ok (.goto (-37), 3) := by decide +kernel
theorem d_X7_count_53 : decode c_X7_count 53 = .ok (.iconst 0, 1) := by decide +kernel
theorem d_X7_count_54 : decode c_X7_count 54 = .ok (.istore 6, 2) := by decide +kernel
theorem d_X7_count_56 : decode c_X7_count 56 = .ok (.iload 6, 2) := by decide +kernel
theorem d_X7_count_58 : decode c_X7_count 58 = .ok (.bipush 6, 2) := by decide +kernel
theorem d_X7_count_60 : decode c_X7_count 60 = .ok (.if_icmp .ge 22, 3) := by decide +kernel
theorem d_X7_count_63 : decode c_X7_count 63 = .ok (.aload_n 0, 1) := by decide +kernel
theorem d_X7_count_64 : decode c_X7_count 64 = .ok (.getfield 50, 3) := by decide +kernel
theorem d_X7_count_67 : decode c_X7_count 67 = .ok (.iload 6, 2) := by decide +kernel
theorem d_X7_count_69 : decode c_X7_count 69 = .ok (.baload, 1) := by decide +kernel
theorem d_X7_count_70 : decode c_X7_count 70 = .ok (.ifCond .eq 6, 3) := by decide +kernel
theorem d_X7_count_73 : decode c_X7_count 73 = .ok (.iinc 4 1, 3) := by decide +kernel
theorem d_X7_count_76 : decode c_X7_count 76 = .ok (.iinc 6 1, 3) := by decide +kernel
theorem d_X7_count_79 : decode c_X7_count 79 = .ok (.goto (-23), 3) := by decide +kernel
theorem d_X7_count_82 : decode c_X7_count 82 = .ok (.iconst 0, 1) := by decide +kernel
theorem d_X7_count_83 : decode c_X7_count 83 = .ok (.istore 6, 2) := by decide +kernel
theorem d_X7_count_85 : decode c_X7_count 85 = .ok (.iload 6, 2) := by decide +kernel
theorem d_X7_count_87 : decode c_X7_count 87 = .ok (.bipush 8, 2) := by decide +kernel
theorem d_X7_count_89 : decode c_X7_count 89 = .ok (.if_icmp .ge 28, 3) := by decide +kernel
theorem d_X7_count_92 : decode c_X7_count 92 = .ok (.aload_n 0, 1) := by decide +kernel
theorem d_X7_count_93 : decode c_X7_count 93 = .ok (.getfield 35, 3) := by decide +kernel
theorem d_X7_count_96 : decode c_X7_count 96 = .ok (.iload 6, 2) := by decide +kernel
theorem d_X7_count_98 : decode c_X7_count 98 = .ok (.iaload, 1) := by decide +kernel
theorem d_X7_count_99 : decode c_X7_count 99 = .ok (.ifCond .lt 12, 3) := by decide +kernel
theorem d_X7_count_102 : decode c_X7_count 102 = .ok (.iload 5, 2) := by decide +kernel
theorem d_X7_count_104 : decode c_X7_count 104 = .ok (.iconst 1, 1) := by decide +kernel
theorem d_X7_count_105 : decode c_X7_count 105 = .ok (.iload 6, 2) := by decide +kernel
theorem d_X7_count_107 : decode c_X7_count 107 = .ok (.ishl, 1) := by decide +kernel
theorem d_X7_count_108 : decode c_X7_count 108 = .ok (.ior, 1) := by decide +kernel
theorem d_X7_count_109 : decode c_X7_count 109 = .ok (.istore 5, 2) := by decide +kernel
theorem d_X7_count_111 : decode c_X7_count 111 = .ok (.iinc 6 1, 3) := by decide +kernel
theorem d_X7_count_114 : decode c_X7_count 114 = .ok (.goto (-29), 3) := by decide +kernel
theorem d_X7_count_117 : decode c_X7_count 117 = .ok (.iload_n 1, 1) := by decide +kernel
theorem d_X7_count_118 : decode c_X7_count 118 = .ok (.ifCond .ne 10, 3) := by decide +kernel
theorem d_X7_count_121 : decode c_X7_count 121 = .ok (.aload_n 0, 1) := by decide +kernel
theorem d_X7_count_122 : decode c_X7_count 122 = .ok (.getfield 7, 3) := by decide +kernel
theorem d_X7_count_125 : decode c_X7_count 125 = .ok (.goto 77, 3) := by decide +kernel
theorem d_X7_count_128 : decode c_X7_count 128 = .ok (.iload_n 1, 1) := by decide +kernel
theorem d_X7_count_129 : decode c_X7_count 129 = .ok (.iconst 1, 1) := by decide +kernel
theorem d_X7_count_130 : decode c_X7_count 130 = .ok (.if_icmp .ne 10, 3) := by decide +kernel
theorem d_X7_count_133 : decode c_X7_count 133 = .ok (.aload_n 0, 1) := by decide +kernel
theorem d_X7_count_134 : decode c_X7_count 134 = .ok (.getfield 13, 3) := by decide +kernel
theorem d_X7_count_137 : decode c_X7_count 137 = .ok (.goto 65, 3) := by decide +kernel
theorem d_X7_count_140 : decode c_X7_count 140 = .ok (.iload_n 1, 1) := by decide +kernel
theorem d_X7_count_141 : decode c_X7_count 141 = .ok (.iconst 2, 1) := by decide +kernel
theorem d_X7_count_142 : decode c_X7_count 142 = .ok (.if_icmp .ne 7, 3) := by decide +kernel
theorem d_X7_count_145 : decode c_X7_count 145 = .ok (.iload_n 2, 1) := by decide +kernel
theorem d_X7_count_146 : decode c_X7_count 146 = .ok (.goto 56, 3) := by decide +kernel
theorem d_X7_count_149 : decode c_X7_count 149 = .ok (.iload_n 1, 1) := by decide +kernel
theorem d_X7_count_150 : decode c_X7_count 150 = .ok (.iconst 3, 1) := by decide +kernel
theorem d_X7_count_151 : decode c_X7_count 151 = .ok (.if_icmp .ne 7, 3) := by decide +kernel
theorem d_X7_count_154 : decode c_X7_count 154 = .ok (.iload_n 3, 1) := by decide +kernel
theorem d_X7_count_155 : decode c_X7_count 155 = .ok (.goto 47, 3) := by decide +kernel
theorem d_X7_count_158 : decode c_X7_count 158 = .ok (.iload_n 1, 1) := by decide +kernel
theorem d_X7_count_159 : decode c_X7_count 159 = .ok (.iconst 4, 1) := by decide +kernel
theorem d_X7_count_160 : decode c_X7_count 160 = .ok (.if_icmp .ne 8, 3) := by decide +kernel
theorem d_X7_count_163 : decode c_X7_count 163 = .ok (.iload 4, 2) := by decide +kernel
theorem d_X7_count_165 : decode c_X7_count 165 = .ok (.goto 37, 3) := by decide +kernel
theorem d_X7_count_168 : decode c_X7_count 168 = .ok (.iload_n 1, 1) := by decide +kernel
theorem d_X7_count_169 : decode c_X7_count 169 = .ok (.iconst 5, 1) := by decide +kernel
theorem d_X7_count_170 : decode c_X7_count 170 = .ok (.if_icmp .eq 9, 3) := by decide +kernel
theorem d_X7_count_173 : decode c_X7_count 173 = .ok (.iload_n 1, 1) := by decide +kernel
theorem d_X7_count_174 : decode c_X7_count 174 = .ok (.bipush 6, 2) := by decide +kernel
theorem d_X7_count_176 : decode c_X7_count 176 = .ok (.if_icmp .ne 14, 3) := by decide +kernel
theorem d_X7_count_179 : decode c_X7_count 179 = .ok (.aload_n 0, 1) := by decide +kernel
theorem d_X7_count_180 : decode c_X7_count 180 = .ok (.getfield 38, 3) := by decide +kernel
theorem d_X7_count_183 : decode c_X7_count 183 = .ok (.iload_n 1, 1) := by decide +kernel
theorem d_X7_count_184 : decode c_X7_count 184 = .ok (.iconst 5, 1) := by decide +kernel
theorem d_X7_count_185 : decode c_X7_count 185 = .ok (.isub, 1) := by decide +kernel
theorem d_X7_count_186 : decode c_X7_count 186 = .ok (.iaload, 1) := by decide +kernel
theorem d_X7_count_187 : decode c_X7_count 187 = .ok (.goto 15, 3) := by decide +kernel
theorem d_X7_count_190 : decode c_X7_count 190 = .ok (.iload_n 1, 1) := by decide +kernel
theorem d_X7_count_191 : decode c_X7_count 191 = .ok (.bipush 7, 2) := by decide +kernel
theorem d_X7_count_193 : decode c_X7_count 193 = .ok (.if_icmp .ne 8, 3) := by decide +kernel
theorem d_X7_count_196 : decode c_X7_count 196 = .ok (.iload 5, 2) := by decide +kernel
theorem d_X7_count_198 : decode c_X7_count 198 = .ok (.goto 4, 3) := by decide +kernel
theorem d_X7_count_201 : decode c_X7_count 201 = .ok (.iconst (-1), 1) := by decide +kernel
theorem d_X7_count_202 : decode c_X7_count 202 = .ok (.ireturn, 1) := by decide +kernel
theorem d_X0_init_0 : decode c_X0_init 0 = .ok (.aload_n 0, 1) := by decide +kernel
theorem d_X0_init_1 : decode c_X0_init 1 = .ok (.invokespecial 3, 3) := by decide +kernel
theorem d_X0_init_4 : decode c_X0_init 4 = .ok (.aload_n 0, 1) := by decide +kernel
theorem d_X0_init_5 : decode c_X0_init 5 = .ok (.bipush 70, 2) := by decide +kernel
theorem d_X0_init_7 : decode c_X0_init 7 = .ok (.newarray .int, 2) := by decide +kernel
theorem d_X0_init_9 : decode c_X0_init 9 = .ok (.putfield 9, 3) := by decide +kernel
theorem d_X0_init_12 : decode c_X0_init 12 = .ok (.aload_n 0, 1) := by decide +kernel
theorem d_X0_init_13 : decode c_X0_init 13 = .ok (.bipush 70, 2) := by decide +kernel
theorem d_X0_init_15 : decode c_X0_init 15 = .ok (.newarray .int, 2) := by decide +kernel
theorem d_X0_init_17 : decode c_X0_init 17 = .ok (.putfield 15, 3) := by decide +kernel
theorem d_X0_init_20 : decode c_X0_init 20 = .ok (.aload_n 0, 1) := by decide +kernel
theorem d_X0_init_21 : decode c_X0_init 21 = .ok (.bipush 70, 2) := by decide +kernel
theorem d_X0_init_23 : decode c_X0_init 23 = .ok (.newarray .int, 2) := by decide +kernel
theorem d_X0_init_25 : decode c_X0_init 25 = .ok (.putfield 18, 3) := by decide +kernel
theorem d_X0_init_28 : decode c_X0_init 28 = .ok (.aload_n 0, 1) := by decide +kernel
theorem d_X0_init_29 : decode c_X0_init 29 = .ok (.bipush 70, 2) := by decide +kernel
theorem d_X0_init_31 : decode c_X0_init 31 = .ok (.newarray .int, 2) := by decide +kernel
theorem d_X0_init_33 : decode c_X0_init 33 = .ok (.putfield 21, 3) := by decide +kernel
theorem d_X0_init_36 : decode c_X0_init 36 = .ok (.aload_n 0, 1) := by decide +kernel
theorem d_X0_init_37 : decode c_X0_init 37 = .ok (.bipush 70, 2) := by decide +kernel
theorem d_X0_init_39 : decode c_X0_init 39 = .ok (.newarray .int, 2) := by decide +kernel
theorem d_X0_init_41 : decode c_X0_init 41 = .ok (.putfield 24, 3) := by decide +kernel
theorem d_X0_init_44 : decode c_X0_init 44 = .ok (.aload_n 0, 1) := by decide +kernel
theorem d_X0_init_45 : decode c_X0_init 45 = .ok (.bipush 70, 2) := by decide +kernel
theorem d_X0_init_47 : decode c_X0_init 47 = .ok (.newarray .int, 2) := by decide +kernel
theorem d_X0_init_49 : decode c_X0_init 49 = .ok (.putfield 27, 3) := by decide +kernel
theorem d_X0_init_52 : decode c_X0_init 52 = .ok (.aload_n 0, 1) := by decide +kernel
theorem d_X0_init_53 : decode c_X0_init 53 = .ok (.bipush 70, 2) := by decide +kernel
theorem d_X0_init_55 : decode c_X0_init 55 = .ok (.newarray .int, 2) := by decide +kernel
theorem d_X0_init_57 : decode c_X0_init 57 = .ok (.putfield 30, 3) := by decide +kernel
theorem d_X0_init_60 : decode c_X0_init 60 = .ok (.return_, 1) := by decide +kernel
theorem d_X0_has_0 : decode c_X0_has 0 = .ok (.iload_n 1, 1) := by decide +kernel
theorem d_X0_has_1 : decode c_X0_has 1 = .ok (.aload_n 0, 1) := by decide +kernel
theorem d_X0_has_2 : decode c_X0_has 2 = .ok (.getfield 33, 3) := by decide +kernel
theorem d_X0_has_5 : decode c_X0_has 5 = .ok (.invokestatic 37, 3) := by decide +kernel
theorem d_X0_has_8 : decode c_X0_has 8 = .ok (.ireturn, 1) := by decide +kernel
theorem d_X0_make_0 : decode c_X0_make 0 = .ok (.iload_n 1, 1) := by decide +kernel
theorem d_X0_make_1 : decode c_X0_make 1 = .ok (.bipush 20, 2) := by decide +kernel
theorem d_X0_make_3 : decode c_X0_make 3 = .ok (.invokestatic 37, 3) := by decide +kernel
theorem d_X0_make_6 : decode c_X0_make 6 = .ok (.ifCond .eq 15, 3) := by decide +kernel
theorem d_X0_make_9 : decode c_X0_make 9 = .ok (.aload_n 0, 1) := by decide +kernel
theorem d_X0_make_10 : decode c_X0_make 10 = .ok (.iload_n 1, 1) := by decide +kernel
theorem d_X0_make_11 : decode c_X0_make 11 = .ok (.iload_n 2, 1) := by decide +kernel
theorem d_X0_make_12 : decode c_X0_make 12 = .ok (.iload_n 3, 1) := by decide +kernel
theorem d_X0_make_13 : decode c_X0_make 13 = .ok (.iload 4, 2) := by decide +kernel
theorem d_X0_make_15 : decode c_X0_make 15 = .ok (.invokevirtual 41, 3) := by decide +kernel
theorem d_X0_make_18 : decode c_X0_make 18 = .ok (.ifCond .ne 5, 3) := by decide +kernel
theorem d_X0_make_21 : decode c_X0_make 21 = .ok (.iconst (-1), 1) := by decide +kernel
theorem d_X0_make_22 : decode c_X0_make 22 = .ok (.ireturn, 1) := by decide +kernel
theorem d_X0_make_23 : decode c_X0_make 23 = .ok (.iload_n 1, 1) := by decide +kernel
theorem d_X0_make_24 : decode c_X0_make 24 = .ok (.iconst 1, 1) := by decide +kernel
theorem d_X0_make_25 : decode c_X0_make 25 = .ok (.invokestatic 45, 3) := by decide +kernel
theorem d_X0_make_28 : decode c_X0_make 28 = .ok (.ifCond .eq 7, 3) := by decide +kernel
theorem d_X0_make_31 : decode c_X0_make 31 = .ok (.iload_n 2, 1) := by decide +kernel
theorem d_X0_make_32 : decode c_X0_make 32 = .ok (.goto 4, 3) := by decide +kernel
theorem d_X0_make_35 : decode c_X0_make 35 = .ok (.iconst (-1), 1) := by decide +kernel
theorem d_X0_make_36 : decode c_X0_make 36 = .ok (.istore 5, 2) := by decide +kernel
theorem d_X0_make_38 : decode c_X0_make 38 = .ok (.iload_n 1, 1) := by decide +kernel
theorem d_X0_make_39 : decode c_X0_make 39 = .ok (.iconst 2, 1) := by decide +kernel
theorem d_X0_make_40 : decode c_X0_make 40 = .ok (.invokestatic 45, 3) := by decide +kernel
theorem d_X0_make_43 : decode c_X0_make 43 = .ok (.ifCond .eq 7, 3) := by decide +kernel
theorem d_X0_make_46 : decode c_X0_make 46 = .ok (.iload_n 3, 1) := by decide +kernel
theorem d_X0_make_47 : decode c_X0_make 47 = .ok (.goto 4, 3) := by decide +kernel
theorem d_X0_make_50 : decode c_X0_make 50 = .ok (.iconst (-1), 1) := by decide +kernel
theorem d_X0_make_51 : decode c_X0_make 51 = .ok (.istore 6, 2) := by decide +kernel
theorem d_X0_make_53 : decode c_X0_make 53 = .ok (.iload_n 1, 1) := by decide +kernel
theorem d_X0_make_54 : decode c_X0_make 54 = .ok (.iconst 4, 1) := by decide +kernel
theorem d_X0_make_55 : decode c_X0_make 55 = .ok (.invokestatic 45, 3) := by decide +kernel
theorem d_X0_make_58 : decode c_X0_make 58 = .ok (.ifCond .eq 8, 3) := by decide +kernel
theorem d_X0_make_61 : decode c_X0_make 61 = .ok (.iload 4, 2) := by decide +kernel
theorem d_X0_make_63 : decode c_X0_make 63 = .ok (.goto 4, 3) := by decide +kernel
theorem d_X0_make_66 : decode c_X0_make 66 = .ok (.iconst (-1), 1) := by decide +kernel
theorem d_X0_make_67 : decode c_X0_make 67 = .ok (.istore 7, 2) := by decide +kernel
theorem d_X0_make_69 : decode c_X0_make 69 = .ok (.iconst 1, 1) := by decide +kernel
theorem d_X0_make_70 : decode c_X0_make 70 = .ok (.aload_n 0, 1) := by decide +kernel
theorem d_X0_make_71 : decode c_X0_make 71 = .ok (.iload 5, 2) := by decide +kernel
theorem d_X0_make_73 : decode c_X0_make 73 = .ok (.invokevirtual 48, 3) := by decide +kernel
theorem d_X0_make_76 : decode c_X0_make 76 = .ok (.aload_n 0, 1) := by decide +kernel
theorem d_X0_make_77 : decode c_X0_make 77 = .ok (.iload 6, 2) := by decide +kernel
theorem d_X0_make_79 : decode c_X0_make 79 = .ok (.invokevirtual 48, 3) := by decide +kernel
theorem d_X0_make_82 : decode c_X0_make 82 = .ok (.aload_n 0, 1) := by decide +kernel
theorem d_X0_make_83 : decode c_X0_make 83 = .ok (.iload 7, 2) := by decide +kernel
theorem d_X0_make_85 : decode c_X0_make 85 = .ok (.invokevirtual 48, 3) := by decide +kernel
theorem d_X0_make_88 : decode c_X0_make 88 = .ok (.invokestatic 52, 3) := by decide +kernel
theorem d_X0_make_91 : decode c_X0_make 91 = .ok (.invokestatic 52, 3) := by decide +kernel
theorem d_X0_make_94 : decode c_X0_make 94 = .ok (.iadd, 1) := by decide +kernel
theorem d_X0_make_95 : decode c_X0_make 95 = .ok (.istore 8, 2) := by decide +kernel
theorem d_X0_make_97 : decode c_X0_make 97 = .ok (.iload 8, 2) := by decide +kernel
theorem d_X0_make_99 : decode c_X0_make 99 = .ok (.bipush 10, 2) := by decide +kernel
theorem d_X0_make_101 : decode c_X0_make 101 = .ok (.if_icmp .le 5, 3) := by decide +kernel
theorem d_X0_make_104 : decode c_X0_make 104 = .ok (.iconst (-1), 1) := by decide +kernel
theorem d_X0_make_105 : decode c_X0_make 105 = .ok (.ireturn, 1) := by decide +kernel
theorem d_X0_make_106 : decode c_X0_make 106 = .ok (.aload_n 0, 1) := by decide +kernel
theorem d_X0_make_107 : decode c_X0_make 107 = .ok (.getfield 33, 3) := by decide +kernel
theorem d_X0_make_110 : decode c_X0_make 110 = .ok (.bipush 70, 2) := by decide +kernel
theorem d_X0_make_112 : decode c_X0_make 112 = .ok (.if_icmp .ne 6, 3) := by decide +kernel
theorem d_X0_make_115 : decode c_X0_make 115 = .ok (.bipush (-2), 2) := by decide +kernel
theorem d_X0_make_117 : decode c_X0_make 117 = .ok (.ireturn, 1) := by decide +kernel
theorem d_X0_make_118 : decode c_X0_make 118 = .ok (.aload_n 0, 1) := by decide +kernel
theorem d_X0_make_119 : decode c_X0_make 119 = .ok (.getfield 33, 3) := by decide +kernel
theorem d_X0_make_122 : decode c_X0_make 122 = .ok (.istore 9, 2) := by decide +kernel
theorem d_X0_make_124 : decode c_X0_make 124 = .ok (.aload_n 0, 1) := by decide +kernel
theorem d_X0_make_125 : decode c_X0_make 125 = .ok (.getfield 9, 3) := by decide +kernel
theorem d_X0_make_128 : decode c_X0_make 128 = .ok (.iload 9, 2) := by decide +kernel
theorem d_X0_make_130 : decode c_X0_make 130 = .ok (.iload_n 1, 1) := by decide +kernel
theorem d_X0_make_131 : decode c_X0_make 131 = .ok (.iastore, 1) := by decide +kernel
theorem d_X0_make_132 : decode c_X0_make 132 = .ok (.aload_n 0, 1) := by decide +kernel
theorem d_X0_make_133 : decode c_X0_make 133 = .ok (.getfield 15, 3) := by decide +kernel
theorem d_X0_make_136 : decode c_X0_make 136 = .ok (.iload 9, 2) := by decide +kernel
theorem d_X0_make_138 : decode c_X0_make 138 = .ok (.iload_n 2, 1) := by decide +kernel
theorem d_X0_make_139 : decode c_X0_make 139 = .ok (.iastore, 1) := by decide +kernel
theorem d_X0_make_140 : decode c_X0_make 140 = .ok (.aload_n 0, 1) := by decide +kernel
theorem d_X0_make_141 : decode c_X0_make 141 = .ok (.getfield 18, 3) := by decide +kernel
theorem d_X0_make_144 : decode c_X0_make 144 = .ok (.iload 9, 2) := by decide +kernel
theorem d_X0_make_146 : decode c_X0_make 146 = .ok (.iload_n 3, 1) := by decide +kernel
theorem d_X0_make_147 : decode c_X0_make 147 = .ok (.iastore, 1) := by decide +kernel
theorem d_X0_make_148 : decode c_X0_make 148 = .ok (.aload_n 0, 1) := by decide +kernel
theorem d_X0_make_149 : decode c_X0_make 149 = .ok (.getfield 21, 3) := by decide +kernel
theorem d_X0_make_152 : decode c_X0_make 152 = .ok (.iload 9, 2) := by decide +kernel
theorem d_X0_make_154 : decode c_X0_make 154 = .ok (.iload 4, 2) := by decide +kernel
theorem d_X0_make_156 : decode c_X0_make 156 = .ok (.iastore, 1) := by decide +kernel
theorem d_X0_make_157 : decode c_X0_make 157 = .ok (.aload_n 0, 1) := by decide +kernel
theorem d_X0_make_158 : decode c_X0_make 158 = .ok (.getfield 24, 3) := by decide +kernel
theorem d_X0_make_161 : decode c_X0_make 161 = .ok (.iload 9, 2) := by decide +kernel
theorem d_X0_make_163 : decode c_X0_make 163 = .ok (.iload 8, 2) := by decide +kernel
theorem d_X0_make_165 : decode c_X0_make 165 = .ok (.iastore, 1) := by decide +kernel
theorem d_X0_make_166 : decode c_X0_make 166 = .ok (.iload_n 1, 1) := by decide +kernel
theorem d_X0_make_167 : decode c_X0_make 167 = .ok (.iconst 2, 1) := by decide +kernel
theorem d_X0_make_168 : decode c_X0_make 168 = .ok (.if_icmp .ne 9, 3) := by decide +kernel
theorem d_X0_make_171 : decode c_X0_make 171 = .ok (.iload_n 2, 1) := by decide +kernel
theorem d_X0_make_172 : decode c_X0_make 172 = .ok (.iconst 1, 1) := by decide +kernel
theorem d_X0_make_173 : decode c_X0_make 173 = .ok (.iadd, 1) := by decide +kernel
theorem d_X0_make_174 : decode c_X0_make 174 = .ok (.goto 4, 3) := by decide +kernel
theorem d_X0_make_177 : decode c_X0_make 177 = .ok (.iconst 0, 1) := by decide +kernel
theorem d_X0_make_178 : decode c_X0_make 178 = .ok (.istore 10, 2) := by decide +kernel
theorem d_X0_make_180 : decode c_X0_make 180 = .ok (.aload_n 0, 1) := by decide +kernel
theorem d_X0_make_181 : decode c_X0_make 181 = .ok (.getfield 27, 3) := by decide +kernel
theorem d_X0_make_184 : decode c_X0_make 184 = .ok (.iload 9, 2) := by decide +kernel
theorem d_X0_make_186 : decode c_X0_make 186 = .ok (.iload 10, 2) := by decide +kernel
theorem d_X0_make_188 : decode c_X0_make 188 = .ok (.aload_n 0, 1) := by decide +kernel
theorem d_X0_make_189 : decode c_X0_make 189 = .ok (.iload 5, 2) := by decide +kernel
theorem d_X0_make_191 : decode c_X0_make 191 = .ok (.invokevirtual 58, 3) := by decide +kernel
theorem d_X0_make_194 : decode c_X0_make 194 = .ok (.invokestatic 52, 3) := by decide +kernel
theorem d_X0_make_197 : decode c_X0_make 197 = .ok (.aload_n 0, 1) := by decide +kernel
theorem d_X0_make_198 : decode c_X0_make 198 = .ok (.iload 6, 2) := by decide +kernel
theorem d_X0_make_200 : decode c_X0_make 200 = .ok (.invokevirtual 58, 3) := by decide +kernel
theorem d_X0_make_203 : decode c_X0_make 203 = .ok (.aload_n 0, 1) := by decide +kernel
theorem d_X0_make_204 : decode c_X0_make 204 = .ok (.iload 7, 2) := by decide +kernel
theorem d_X0_make_206 : decode c_X0_make 206 = .ok (.invokevirtual 58, 3) := by decide +kernel
theorem d_X0_make_209 : decode c_X0_make 209 = .ok (.invokestatic 52, 3) := by decide +kernel
theorem d_X0_make_212 : decode c_X0_make 212 = .ok (.invokestatic 52, 3) := by decide +kernel
theorem d_X0_make_215 : decode c_X0_make 215 = .ok (.iastore, 1) := by decide +kernel
theorem d_X0_make_216 : decode c_X0_make 216 = .ok (.aload_n 0, 1) := by decide +kernel
theorem d_X0_make_217 : decode c_X0_make 217 = .ok (.iload 9, 2) := by decide +kernel
theorem d_X0_make_219 : decode c_X0_make 219 = .ok (.invokevirtual 61, 3) := by decide +kernel
theorem d_X0_make_222 : decode c_X0_make 222 = .ok (.aload_n 0, 1) := by decide +kernel
theorem d_X0_make_223 : decode c_X0_make 223 = .ok (.dup, 1) := by decide +kernel
theorem d_X0_make_224 : decode c_X0_make 224 = .ok (.getfield 33, 3) := by decide +kernel
theorem d_X0_make_227 : decode c_X0_make 227 = .ok (.iconst 1, 1) := by decide +kernel
theorem d_X0_make_228 : decode c_X0_make 228 = .ok (.iadd, 1) := by decide +kernel
theorem d_X0_make_229 : decode c_X0_make 229 = .ok (.putfield 33, 3) := by decide +kernel
theorem d_X0_make_232 : decode c_X0_make 232 = .ok (.iload 9, 2) := by decide +kernel
theorem d_X0_make_234 : decode c_X0_make 234 = .ok (.ireturn, 1) := by decide +kernel
theorem d_X0_takesNode_0 : decode c_X0_takesNode 0 = .ok (.getstatic 65, 3) := by decide +kernel
theorem d_X0_takesNode_3 : decode c_X0_takesNode 3 = .ok (.iload_n 0, 1) := by decide +kernel
theorem d_X0_takesNode_4 : decode c_X0_takesNode 4 = .ok (.iaload, 1) := by decide +kernel
theorem d_X0_takesNode_5 : decode c_X0_takesNode 5 = .ok (.iload_n 1, 1) := by decide +kernel
theorem d_X0_takesNode_6 : decode c_X0_takesNode 6 = .ok (.iand, 1) := by decide +kernel
theorem d_X0_takesNode_7 : decode c_X0_takesNode 7 = .ok (.ifCond .eq 7, 3) := by decide +kernel
theorem d_X0_takesNode_10 : decode c_X0_takesNode 10 = .ok (.iconst 1, 1) := by decide +kernel
theorem d_X0_takesNode_11 : decode c_X0_takesNode 11 = .ok (.goto 4, 3) := by decide +kernel
theorem d_X0_takesNode_14 : decode c_X0_takesNode 14 = .ok (.iconst 0, 1) := by decide +kernel
theorem d_X0_takesNode_15 : decode c_X0_takesNode 15 = .ok (.ireturn, 1) := by decide +kernel
theorem d_X0_operandsFit_0 : decode c_X0_operandsFit 0 = .ok (.aload_n 0, 1) := by decide +kernel
theorem d_X0_operandsFit_1 : decode c_X0_operandsFit 1 = .ok (.iload_n 1, 1) := by decide +kernel
theorem d_X0_operandsFit_2 : decode c_X0_operandsFit 2 = .ok (.iload_n 2, 1) := by decide +kernel
theorem d_X0_operandsFit_3 : decode c_X0_operandsFit 3 = .ok (.invokevirtual 68, 3) := by decide +kernel
theorem d_X0_operandsFit_6 : decode c_X0_operandsFit 6 = .ok (.ifCond .eq 40, 3) := by decide +kernel
theorem d_X0_operandsFit_9 : decode c_X0_operandsFit 9 = .ok (.iload_n 1, 1) := by decide +kernel
theorem d_X0_operandsFit_10 : decode c_X0_operandsFit 10 = .ok (.iconst 2, 1) := by decide +kernel
theorem d_X0_operandsFit_11 : decode c_X0_operandsFit 11 = .ok (.invokestatic 45, 3) := by decide +kernel
theorem d_X0_operandsFit_14 : decode c_X0_operandsFit 14 = .ok (.ifCond .eq 11, 3) := by decide +kernel
theorem d_X0_operandsFit_17 : decode c_X0_operandsFit 17 = .ok (.aload_n 0, 1) := by decide +kernel
theorem d_X0_operandsFit_18 : decode c_X0_operandsFit 18 = .ok (.iload_n 3, 1) := by decide +kernel
theorem d_X0_operandsFit_19 : decode c_X0_operandsFit 19 = .ok (.invokevirtual 71, 3) := by decide +kernel
theorem d_X0_operandsFit_22 : decode c_X0_operandsFit 22 = .ok (.ifCond .eq 24, 3) := by decide +kernel
theorem d_X0_operandsFit_25 : decode c_X0_operandsFit 25 = .ok (.iload_n 1, 1) := by decide +kernel
theorem d_X0_operandsFit_26 : decode c_X0_operandsFit 26 = .ok (.iconst 4, 1) := by decide +kernel
theorem d_X0_operandsFit_27 : decode c_X0_operandsFit 27 = .ok (.invokestatic 45, 3) := by decide +kernel
theorem d_X0_operandsFit_30 : decode c_X0_operandsFit 30 = .ok (.ifCond .eq 12, 3) := by decide +kernel
theorem d_X0_operandsFit_33 : decode c_X0_operandsFit 33 = .ok (.aload_n 0, 1) := by decide +kernel
theorem d_X0_operandsFit_34 : decode c_X0_operandsFit 34 = .ok (.iload 4, 2) := by decide +kernel
theorem d_X0_operandsFit_36 : decode c_X0_operandsFit 36 = .ok (.invokevirtual 71, 3) := by decide +kernel
theorem d_X0_operandsFit_39 : decode c_X0_operandsFit 39 = .ok (.ifCond .eq 7, 3) := by decide +kernel
theorem d_X0_operandsFit_42 : decode c_X0_operandsFit 42 = .ok (.iconst 1, 1) := by decide +kernel
theorem d_X0_operandsFit_43 : decode c_X0_operandsFit 43 = .ok (.goto 4, 3) := by decide +kernel
theorem d_X0_operandsFit_46 : decode c_X0_operandsFit 46 = .ok (.iconst 0, 1) := by decide +kernel
theorem d_X0_operandsFit_47 : decode c_X0_operandsFit 47 = .ok (.ireturn, 1) := by decide +kernel
theorem d_X0_firstFits_0 : decode c_X0_firstFits 0 = .ok (.iload_n 1, 1) := by decide +kernel
theorem d_X0_firstFits_1 : decode c_X0_firstFits 1 = .ok (.tableswitch 144 0 19 #[95, 99, 106, 113, 144, 144, 144, 144, 144, 144, 144, 144, 144, 144, 144, 144, 97, 125, 144, 119], 95) := by decide +kernel
theorem d_X0_firstFits_96 : decode c_X0_firstFits 96 = .ok (.iconst 1, 1) := by decide +kernel
theorem d_X0_firstFits_97 : decode c_X0_firstFits 97 = .ok (.ireturn, 1) := by decide +kernel
theorem d_X0_firstFits_98 : decode c_X0_firstFits 98 = .ok (.iconst 1, 1) := by decide +kernel
theorem d_X0_firstFits_99 : decode c_X0_firstFits 99 = .ok (.ireturn, 1) := by decide +kernel
theorem d_X0_firstFits_100 : decode c_X0_firstFits 100 = .ok (.iload_n 2, 1) := by decide +kernel
theorem d_X0_firstFits_101 : decode c_X0_firstFits 101 = .ok (.bipush 8, 2) := by decide +kernel
theorem d_X0_firstFits_103 : decode c_X0_firstFits 103 = .ok (.invokestatic 37, 3) := by decide +kernel
theorem d_X0_firstFits_106 : decode c_X0_firstFits 106 = .ok (.ireturn, 1) := by decide +kernel
theorem d_X0_firstFits_107 : decode c_X0_firstFits 107 = .ok (.iload_n 2, 1) := by decide +kernel
theorem d_X0_firstFits_108 : decode c_X0_firstFits 108 = .ok (.bipush 8, 2) := by decide +kernel
theorem d_X0_firstFits_110 : decode c_X0_firstFits 110 = .ok (.invokestatic 37, 3) := by decide +kernel
theorem d_X0_firstFits_113 : decode c_X0_firstFits 113 = .ok (.ireturn, 1) := by decide +kernel
theorem d_X0_firstFits_114 : decode c_X0_firstFits 114 = .ok (.iload_n 2, 1) := by decide +kernel
theorem d_X0_firstFits_115 : decode c_X0_firstFits 115 = .ok (.iconst 2, 1) := by decide +kernel
theorem d_X0_firstFits_116 : decode c_X0_firstFits 116 = .ok (.invokestatic 37, 3) := by decide +kernel
theorem d_X0_firstFits_119 : decode c_X0_firstFits 119 = .ok (.ireturn, 1) := by decide +kernel
theorem d_X0_firstFits_120 : decode c_X0_firstFits 120 = .ok (.iload_n 2, 1) := by decide +kernel
theorem d_X0_firstFits_121 : decode c_X0_firstFits 121 = .ok (.iconst 2, 1) := by decide +kernel
theorem d_X0_firstFits_122 : decode c_X0_firstFits 122 = .ok (.invokestatic 37, 3) := by decide +kernel
theorem d_X0_firstFits_125 : decode c_X0_firstFits 125 = .ok (.ireturn, 1) := by decide +kernel
theorem d_X0_firstFits_126 : decode c_X0_firstFits 126 = .ok (.iload_n 2, 1) := by decide +kernel
theorem d_X0_firstFits_127 : decode c_X0_firstFits 127 = .ok (.iconst (-1), 1) := by decide +kernel
theorem d_X0_firstFits_128 : decode c_X0_firstFits 128 = .ok (.if_icmp .eq 11, 3) := by decide +kernel
theorem d_X0_firstFits_131 : decode c_X0_firstFits 131 = .ok (.aload_n 0, 1) := by decide +kernel
theorem d_X0_firstFits_132 : decode c_X0_firstFits 132 = .ok (.iload_n 2, 1) := by decide +kernel
theorem d_X0_firstFits_133 : decode c_X0_firstFits 133 = .ok (.invokevirtual 71, 3) := by decide +kernel
theorem d_X0_firstFits_136 : decode c_X0_firstFits 136 = .ok (.ifCond .eq 7, 3) := by decide +kernel
theorem d_X0_firstFits_139 : decode c_X0_firstFits 139 = .ok (.iconst 1, 1) := by decide +kernel
theorem d_X0_firstFits_140 : decode c_X0_firstFits 140 = .ok (.goto 4, 3) := by decide +kernel
theorem d_X0_firstFits_143 : decode c_X0_firstFits 143 = .ok (.iconst 0, 1) := by decide +kernel
theorem d_X0_firstFits_144 : decode c_X0_firstFits 144 = .ok (.ireturn, 1) := by decide +kernel
theorem d_X0_firstFits_145 : decode c_X0_firstFits 145 = .ok (.aload_n 0, 1) := by decide +kernel
theorem d_X0_firstFits_146 : decode c_X0_firstFits 146 = .ok (.iload_n 2, 1) := by decide +kernel
theorem d_X0_firstFits_147 : decode c_X0_firstFits 147 = .ok (.invokevirtual 71, 3) := by decide +kernel
theorem d_X0_firstFits_150 : decode c_X0_firstFits 150 = .ok (.ireturn, 1) := by decide +kernel
theorem d_X0_levelOf_0 : decode c_X0_levelOf 0 = .ok (.iload_n 1, 1) := by decide +kernel
theorem d_X0_levelOf_1 : decode c_X0_levelOf 1 = .ok (.iconst (-1), 1) := by decide +kernel
theorem d_X0_levelOf_2 : decode c_X0_levelOf 2 = .ok (.if_icmp .ne 7, 3) := by decide +kernel
theorem d_X0_levelOf_5 : decode c_X0_levelOf 5 = .ok (.iconst 0, 1) := by decide +kernel
theorem d_X0_levelOf_6 : decode c_X0_levelOf 6 = .ok (.goto 9, 3) := by decide +kernel
theorem d_X0_levelOf_9 : decode c_X0_levelOf 9 = .ok (.aload_n 0, 1) := by decide +kernel
theorem d_X0_levelOf_10 : decode c_X0_levelOf 10 = .ok (.getfield 24, 3) := by decide +kernel
theorem d_X0_levelOf_13 : decode c_X0_levelOf 13 = .ok (.iload_n 1, 1) := by decide +kernel
theorem d_X0_levelOf_14 : decode c_X0_levelOf 14 = .ok (.iaload, 1) := by decide +kernel
theorem d_X0_levelOf_15 : decode c_X0_levelOf 15 = .ok (.ireturn, 1) := by decide +kernel
theorem d_X0_rankOf_0 : decode c_X0_rankOf 0 = .ok (.iload_n 1, 1) := by decide +kernel
theorem d_X0_rankOf_1 : decode c_X0_rankOf 1 = .ok (.iconst (-1), 1) := by decide +kernel
theorem d_X0_rankOf_2 : decode c_X0_rankOf 2 = .ok (.if_icmp .ne 7, 3) := by decide +kernel
theorem d_X0_rankOf_5 : decode c_X0_rankOf 5 = .ok (.iconst 0, 1) := by decide +kernel
theorem d_X0_rankOf_6 : decode c_X0_rankOf 6 = .ok (.goto 9, 3) := by decide +kernel
theorem d_X0_rankOf_9 : decode c_X0_rankOf 9 = .ok (.aload_n 0, 1) := by decide +kernel
theorem d_X0_rankOf_10 : decode c_X0_rankOf 10 = .ok (.getfield 27, 3) := by decide +kernel
theorem d_X0_rankOf_13 : decode c_X0_rankOf 13 = .ok (.iload_n 1, 1) := by decide +kernel
theorem d_X0_rankOf_14 : decode c_X0_rankOf 14 = .ok (.iaload, 1) := by decide +kernel
theorem d_X0_rankOf_15 : decode c_X0_rankOf 15 = .ok (.ireturn, 1) := by decide +kernel
theorem d_X0_putInOrder_0 : decode c_X0_putInOrder 0 = .ok (.iload_n 1, 1) := by decide +kernel
theorem d_X0_putInOrder_1 : decode c_X0_putInOrder 1 = .ok (.istore_n 2, 1) := by decide +kernel
theorem d_X0_putInOrder_2 : decode c_X0_putInOrder 2 = .ok (.iload_n 2, 1) := by decide +kernel
theorem d_X0_putInOrder_3 : decode c_X0_putInOrder 3 = .ok (.ifCond .le 45, 3) := by decide +kernel
theorem d_X0_putInOrder_6 : decode c_X0_putInOrder 6 = .ok (.aload_n 0, 1) := by decide +kernel
theorem d_X0_putInOrder_7 : decode c_X0_putInOrder 7 = .ok (.getfield 27, 3) := by decide +kernel
theorem d_X0_putInOrder_10 : decode c_X0_putInOrder 10 = .ok (.aload_n 0, 1) := by decide +kernel
theorem d_X0_putInOrder_11 : decode c_X0_putInOrder 11 = .ok (.getfield 30, 3) := by decide +kernel
theorem d_X0_putInOrder_14 : decode c_X0_putInOrder 14 = .ok (.iload_n 2, 1) := by decide +kernel
theorem d_X0_putInOrder_15 : decode c_X0_putInOrder 15 = .ok (.iconst 1, 1) := by decide +kernel
theorem d_X0_putInOrder_16 : decode c_X0_putInOrder 16 = .ok (.isub, 1) := by decide +kernel
theorem d_X0_putInOrder_17 : decode c_X0_putInOrder 17 = .ok (.iaload, 1) := by decide +kernel
theorem d_X0_putInOrder_18 : decode c_X0_putInOrder 18 = .ok (.iaload, 1) := by decide +kernel
theorem d_X0_putInOrder_19 : decode c_X0_putInOrder 19 = .ok (.aload_n 0, 1) := by decide +kernel
theorem d_X0_putInOrder_20 : decode c_X0_putInOrder 20 = .ok (.getfield 27, 3) := by decide +kernel
theorem d_X0_putInOrder_23 : decode c_X0_putInOrder 23 = .ok (.iload_n 1, 1) := by decide +kernel
theorem d_X0_putInOrder_24 : decode c_X0_putInOrder 24 = .ok (.iaload, 1) := by decide +kernel
theorem d_X0_putInOrder_25 : decode c_X0_putInOrder 25 = .ok (.if_icmp .le 23, 3) := by decide +kernel
theorem d_X0_putInOrder_28 : decode c_X0_putInOrder 28 = .ok (.aload_n 0, 1) := by decide +kernel
theorem d_X0_putInOrder_29 : decode c_X0_putInOrder 29 = .ok (.getfield 30, 3) := by decide +kernel
theorem d_X0_putInOrder_32 : decode c_X0_putInOrder 32 = .ok (.iload_n 2, 1) := by decide +kernel
theorem d_X0_putInOrder_33 : decode c_X0_putInOrder 33 = .ok (.aload_n 0, 1) := by decide +kernel
theorem d_X0_putInOrder_34 : decode c_X0_putInOrder 34 = .ok (.getfield 30, 3) := by decide +kernel
theorem d_X0_putInOrder_37 : decode c_X0_putInOrder 37 = .ok (.iload_n 2, 1) := by decide +kernel
theorem d_X0_putInOrder_38 : decode c_X0_putInOrder 38 = .ok (.iconst 1, 1) := by decide +kernel
theorem d_X0_putInOrder_39 : decode c_X0_putInOrder 39 = .ok (.isub, 1) := by decide +kernel
theorem d_X0_putInOrder_40 : decode c_X0_putInOrder 40 = .ok (.iaload, 1) := by decide +kernel
theorem d_X0_putInOrder_41 : decode c_X0_putInOrder 41 = .ok (.iastore, 1) := by decide +kernel
theorem d_X0_putInOrder_42 : decode c_X0_putInOrder 42 = .ok (.iinc 2 (-1), 3) := by decide +kernel
theorem d_X0_putInOrder_45 : decode c_X0_putInOrder 45 = .ok (.goto (-43), 3) := by decide +kernel
theorem d_X0_putInOrder_48 : decode c_X0_putInOrder 48 = .ok (.aload_n 0, 1) := by decide +kernel
theorem d_X0_putInOrder_49 : decode c_X0_putInOrder 49 = .ok (.getfield 30, 3) := by decide +kernel
theorem d_X0_putInOrder_52 : decode c_X0_putInOrder 52 = .ok (.iload_n 2, 1) := by decide +kernel
theorem d_X0_putInOrder_53 : decode c_X0_putInOrder 53 = .ok (.iload_n 1, 1) := by decide +kernel
theorem d_X0_putInOrder_54 : decode c_X0_putInOrder 54 = .ok (.iastore, 1) := by decide +kernel
theorem d_X0_putInOrder_55 : decode c_X0_putInOrder 55 = .ok (.return_, 1) := by decide +kernel
theorem d_X1_init_0 : decode c_X1_init 0 = .ok (.aload_n 0, 1) := by decide +kernel
theorem d_X1_init_1 : decode c_X1_init 1 = .ok (.invokespecial 3, 3) := by decide +kernel
theorem d_X1_init_4 : decode c_X1_init 4 = .ok (.aload_n 0, 1) := by decide +kernel
theorem d_X1_init_5 : decode c_X1_init 5 = .ok (.bipush 8, 2) := by decide +kernel
theorem d_X1_init_7 : decode c_X1_init 7 = .ok (.newarray .int, 2) := by decide +kernel
theorem d_X1_init_9 : decode c_X1_init 9 = .ok (.putfield 9, 3) := by decide +kernel
theorem d_X1_init_12 : decode c_X1_init 12 = .ok (.return_, 1) := by decide +kernel
theorem d_X1_paidSoFar_0 : decode c_X1_paidSoFar 0 = .ok (.iload_n 1, 1) := by decide +kernel
theorem d_X1_paidSoFar_1 : decode c_X1_paidSoFar 1 = .ok (.ifCond .ne 10, 3) := by decide +kernel
theorem d_X1_paidSoFar_4 : decode c_X1_paidSoFar 4 = .ok (.aload_n 0, 1) := by decide +kernel
theorem d_X1_paidSoFar_5 : decode c_X1_paidSoFar 5 = .ok (.getfield 15, 3) := by decide +kernel
theorem d_X1_paidSoFar_8 : decode c_X1_paidSoFar 8 = .ok (.goto 7, 3) := by decide +kernel
theorem d_X1_paidSoFar_11 : decode c_X1_paidSoFar 11 = .ok (.aload_n 0, 1) := by decide +kernel
theorem d_X1_paidSoFar_12 : decode c_X1_paidSoFar 12 = .ok (.getfield 19, 3) := by decide +kernel
theorem d_X1_paidSoFar_15 : decode c_X1_paidSoFar 15 = .ok (.lreturn, 1) := by decide +kernel
theorem d_X1_paidIsInt_0 : decode c_X1_paidIsInt 0 = .ok (.aload_n 0, 1) := by decide +kernel
theorem d_X1_paidIsInt_1 : decode c_X1_paidIsInt 1 = .ok (.getfield 15, 3) := by decide +kernel
theorem d_X1_paidIsInt_4 : decode c_X1_paidIsInt 4 = .ok (.invokestatic 22, 3) := by decide +kernel
theorem d_X1_paidIsInt_7 : decode c_X1_paidIsInt 7 = .ok (.ifCond .eq 17, 3) := by decide +kernel
theorem d_X1_paidIsInt_10 : decode c_X1_paidIsInt 10 = .ok (.aload_n 0, 1) := by decide +kernel
theorem d_X1_paidIsInt_11 : decode c_X1_paidIsInt 11 = .ok (.getfield 19, 3) := by decide +kernel
theorem d_X1_paidIsInt_14 : decode c_X1_paidIsInt 14 = .ok (.invokestatic 22, 3) := by decide +kernel
theorem d_X1_paidIsInt_17 : decode c_X1_paidIsInt 17 = .ok (.ifCond .eq 7, 3) := by decide +kernel
theorem d_X1_paidIsInt_20 : decode c_X1_paidIsInt 20 = .ok (.iconst 1, 1) := by decide +kernel
theorem d_X1_paidIsInt_21 : decode c_X1_paidIsInt 21 = .ok (.goto 4, 3) := by decide +kernel
theorem d_X1_paidIsInt_24 : decode c_X1_paidIsInt 24 = .ok (.iconst 0, 1) := by decide +kernel
theorem d_X1_paidIsInt_25 : decode c_X1_paidIsInt 25 = .ok (.ireturn, 1) := by decide +kernel
theorem d_X1_grow_0 : decode c_X1_grow 0 = .ok (.aload_n 0, 1) := by decide +kernel
theorem d_X1_grow_1 : decode c_X1_grow 1 = .ok (.dup, 1) := by decide +kernel
theorem d_X1_grow_2 : decode c_X1_grow 2 = .ok (.getfield 15, 3) := by decide +kernel
theorem d_X1_grow_5 : decode c_X1_grow 5 = .ok (.lload_n 1, 1) := by decide +kernel
theorem d_X1_grow_6 : decode c_X1_grow 6 = .ok (.ladd, 1) := by decide +kernel
theorem d_X1_grow_7 : decode c_X1_grow 7 = .ok (.putfield 15, 3) := by decide +kernel
theorem d_X1_grow_10 : decode c_X1_grow 10 = .ok (.aload_n 0, 1) := by decide +kernel
theorem d_X1_grow_11 : decode c_X1_grow 11 = .ok (.dup, 1) := by decide +kernel
theorem d_X1_grow_12 : decode c_X1_grow 12 = .ok (.getfield 19, 3) := by decide +kernel
theorem d_X1_grow_15 : decode c_X1_grow 15 = .ok (.lload_n 3, 1) := by decide +kernel
theorem d_X1_grow_16 : decode c_X1_grow 16 = .ok (.ladd, 1) := by decide +kernel
theorem d_X1_grow_17 : decode c_X1_grow 17 = .ok (.putfield 19, 3) := by decide +kernel
theorem d_X1_grow_20 : decode c_X1_grow 20 = .ok (.return_, 1) := by decide +kernel
theorem d_X1_reasonToHold_0 : decode c_X1_reasonToHold 0 = .ok (.lload_n 1, 1) := by decide +kernel
theorem d_X1_reasonToHold_1 : decode c_X1_reasonToHold 1 = .ok (.invokestatic 22, 3) := by decide +kernel
theorem d_X1_reasonToHold_4 : decode c_X1_reasonToHold 4 = .ok (.ifCond .ne 8, 3) := by decide +kernel
theorem d_X1_reasonToHold_7 : decode c_X1_reasonToHold 7 = .ok (.lload_n 1, 1) := by decide +kernel
theorem d_X1_reasonToHold_8 : decode c_X1_reasonToHold 8 = .ok (.invokestatic 28, 3) := by decide +kernel
theorem d_X1_reasonToHold_11 : decode c_X1_reasonToHold 11 = .ok (.ireturn, 1) := by decide +kernel
theorem d_X1_reasonToHold_12 : decode c_X1_reasonToHold 12 = .ok (.lload_n 3, 1) := by decide +kernel
theorem d_X1_reasonToHold_13 : decode c_X1_reasonToHold 13 = .ok (.invokestatic 22, 3) := by decide +kernel
theorem d_X1_reasonToHold_16 : decode c_X1_reasonToHold 16 = .ok (.ifCond .ne 8, 3) := by decide +kernel
theorem d_X1_reasonToHold_19 : decode c_X1_reasonToHold 19 = .ok (.lload_n 3, 1) := by decide +kernel
theorem d_X1_reasonToHold_20 : decode c_X1_reasonToHold 20 = .ok (.invokestatic 28, 3) := by decide +kernel
theorem d_X1_reasonToHold_23 : decode c_X1_reasonToHold 23 = .ok (.ireturn, 1) := by decide +kernel
theorem d_X1_reasonToHold_24 : decode c_X1_reasonToHold 24 = .ok (.lload 5, 2) := by decide +kernel
theorem d_X1_reasonToHold_26 : decode c_X1_reasonToHold 26 = .ok (.invokestatic 22, 3) := by decide +kernel
theorem d_X1_reasonToHold_29 : decode c_X1_reasonToHold 29 = .ok (.ifCond .ne 9, 3) := by decide +kernel
theorem d_X1_reasonToHold_32 : decode c_X1_reasonToHold 32 = .ok (.lload 5, 2) := by decide +kernel
theorem d_X1_reasonToHold_34 : decode c_X1_reasonToHold 34 = .ok (.invokestatic 28, 3) := by decide +kernel
theorem d_X1_reasonToHold_37 : decode c_X1_reasonToHold 37 = .ok (.ireturn, 1) := by decide +kernel
theorem d_X1_reasonToHold_38 : decode c_X1_reasonToHold 38 = .ok (.lload_n 1, 1) := by decide +kernel
theorem d_X1_reasonToHold_39 : decode c_X1_reasonToHold 39 = .ok (.lload_n 3, 1) := by decide +kernel
theorem d_X1_reasonToHold_40 : decode c_X1_reasonToHold 40 = .ok (.lsub, 1) := by decide +kernel
theorem d_X1_reasonToHold_41 : decode c_X1_reasonToHold 41 = .ok (.lload 5, 2) := by decide +kernel
theorem d_X1_reasonToHold_43 : decode c_X1_reasonToHold 43 = .ok (.lcmp, 1) := by decide +kernel
theorem d_X1_reasonToHold_44 : decode c_X1_reasonToHold 44 = .ok (.ifCond .eq 5, 3) := by decide +kernel
theorem d_X1_reasonToHold_47 : decode c_X1_reasonToHold 47 = .ok (.iconst 5, 1) := by decide +kernel
theorem d_X1_reasonToHold_48 : decode c_X1_reasonToHold 48 = .ok (.ireturn, 1) := by decide +kernel
theorem d_X1_reasonToHold_49 : decode c_X1_reasonToHold 49 = .ok (.aload_n 0, 1) := by decide +kernel
theorem d_X1_reasonToHold_50 : decode c_X1_reasonToHold 50 = .ok (.getfield 15, 3) := by decide +kernel
theorem d_X1_reasonToHold_53 : decode c_X1_reasonToHold 53 = .ok (.lload_n 1, 1) := by decide +kernel
theorem d_X1_reasonToHold_54 : decode c_X1_reasonToHold 54 = .ok (.ladd, 1) := by decide +kernel
theorem d_X1_reasonToHold_55 : decode c_X1_reasonToHold 55 = .ok (.invokestatic 22, 3) := by decide +kernel
theorem d_X1_reasonToHold_58 : decode c_X1_reasonToHold 58 = .ok (.ifCond .eq 15, 3) := by decide +kernel
theorem d_X1_reasonToHold_61 : decode c_X1_reasonToHold 61 = .ok (.aload_n 0, 1) := by decide +kernel
theorem d_X1_reasonToHold_62 : decode c_X1_reasonToHold 62 = .ok (.getfield 19, 3) := by decide +kernel
theorem d_X1_reasonToHold_65 : decode c_X1_reasonToHold 65 = .ok (.lload_n 3, 1) := by decide +kernel
theorem d_X1_reasonToHold_66 : decode c_X1_reasonToHold 66 = .ok (.ladd, 1) := by decide +kernel
theorem d_X1_reasonToHold_67 : decode c_X1_reasonToHold 67 = .ok (.invokestatic 22, 3) := by decide +kernel
theorem d_X1_reasonToHold_70 : decode c_X1_reasonToHold 70 = .ok (.ifCond .ne 6, 3) := by decide +kernel
theorem d_X1_reasonToHold_73 : decode c_X1_reasonToHold 73 = .ok (.bipush 6, 2) := by decide +kernel
theorem d_X1_reasonToHold_75 : decode c_X1_reasonToHold 75 = .ok (.ireturn, 1) := by decide +kernel
theorem d_X1_reasonToHold_76 : decode c_X1_reasonToHold 76 = .ok (.iconst 0, 1) := by decide +kernel
theorem d_X1_reasonToHold_77 : decode c_X1_reasonToHold 77 = .ok (.ireturn, 1) := by decide +kernel
theorem d_X1_reasonOf_0 : decode c_X1_reasonOf 0 = .ok (.lload_n 0, 1) := by decide +kernel
theorem d_X1_reasonOf_1 : decode c_X1_reasonOf 1 = .ok (.invokestatic 32, 3) := by decide +kernel
theorem d_X1_reasonOf_4 : decode c_X1_reasonOf 4 = .ok (.ldc2_w 36, 3) := by decide +kernel
theorem d_X1_reasonOf_7 : decode c_X1_reasonOf 7 = .ok (.lsub, 1) := by decide +kernel
theorem d_X1_reasonOf_8 : decode c_X1_reasonOf 8 = .ok (.l2i, 1) := by decide +kernel
theorem d_X1_reasonOf_9 : decode c_X1_reasonOf 9 = .ok (.ireturn, 1) := by decide +kernel
theorem d_X2_init_0 : decode c_X2_init 0 = .ok (.aload_n 0, 1) := by decide +kernel
theorem d_X2_init_1 : decode c_X2_init 1 = .ok (.invokespecial 3, 3) := by decide +kernel
theorem d_X2_init_4 : decode c_X2_init 4 = .ok (.aload_n 0, 1) := by decide +kernel
theorem d_X2_init_5 : decode c_X2_init 5 = .ok (.new 9, 3) := by decide +kernel
theorem d_X2_init_8 : decode c_X2_init 8 = .ok (.dup, 1) := by decide +kernel
theorem d_X2_init_9 : decode c_X2_init 9 = .ok (.invokespecial 11, 3) := by decide +kernel
theorem d_X2_init_12 : decode c_X2_init 12 = .ok (.putfield 12, 3) := by decide +kernel
theorem d_X2_init_15 : decode c_X2_init 15 = .ok (.aload_n 0, 1) := by decide +kernel
theorem d_X2_init_16 : decode c_X2_init 16 = .ok (.bipush 8, 2) := by decide +kernel
theorem d_X2_init_18 : decode c_X2_init 18 = .ok (.newarray .int, 2) := by decide +kernel
theorem d_X2_init_20 : decode c_X2_init 20 = .ok (.putfield 18, 3) := by decide +kernel
theorem d_X2_init_23 : decode c_X2_init 23 = .ok (.aload_n 0, 1) := by decide +kernel
theorem d_X2_init_24 : decode c_X2_init 24 = .ok (.iconst 2, 1) := by decide +kernel
theorem d_X2_init_25 : decode c_X2_init 25 = .ok (.anewarray 22, 3) := by decide +kernel
theorem d_X2_init_28 : decode c_X2_init 28 = .ok (.putfield 24, 3) := by decide +kernel
theorem d_X2_init_31 : decode c_X2_init 31 = .ok (.aload_n 0, 1) := by decide +kernel
theorem d_X2_init_32 : decode c_X2_init 32 = .ok (.bipush 70, 2) := by decide +kernel
theorem d_X2_init_34 : decode c_X2_init 34 = .ok (.newarray .long, 2) := by decide +kernel
theorem d_X2_init_36 : decode c_X2_init 36 = .ok (.putfield 28, 3) := by decide +kernel
theorem d_X2_init_39 : decode c_X2_init 39 = .ok (.aload_n 0, 1) := by decide +kernel
theorem d_X2_init_40 : decode c_X2_init 40 = .ok (.getfield 18, 3) := by decide +kernel
theorem d_X2_init_43 : decode c_X2_init 43 = .ok (.iconst (-1), 1) := by decide +kernel
theorem d_X2_init_44 : decode c_X2_init 44 = .ok (.invokestatic 32, 3) := by decide +kernel
theorem d_X2_init_47 : decode c_X2_init 47 = .ok (.iconst 0, 1) := by decide +kernel
theorem d_X2_init_48 : decode c_X2_init 48 = .ok (.istore_n 1, 1) := by decide +kernel
theorem d_X2_init_49 : decode c_X2_init 49 = .ok (.iload_n 1, 1) := by decide +kernel
theorem d_X2_init_50 : decode c_X2_init 50 = .ok (.iconst 2, 1) := by decide +kernel
theorem d_X2_init_51 : decode c_X2_init 51 = .ok (.if_icmp .ge 22, 3) := by decide +kernel
theorem d_X2_init_54 : decode c_X2_init 54 = .ok (.aload_n 0, 1) := by decide +kernel
theorem d_X2_init_55 : decode c_X2_init 55 = .ok (.getfield 24, 3) := by decide +kernel
theorem d_X2_init_58 : decode c_X2_init 58 = .ok (.iload_n 1, 1) := by decide +kernel
theorem d_X2_init_59 : decode c_X2_init 59 = .ok (.new 22, 3) := by decide +kernel
theorem d_X2_init_62 : decode c_X2_init 62 = .ok (.dup, 1) := by decide +kernel
theorem d_X2_init_63 : decode c_X2_init 63 = .ok (.invokespecial 38, 3) := by decide +kernel
theorem d_X2_init_66 : decode c_X2_init 66 = .ok (.aastore, 1) := by decide +kernel
theorem d_X2_init_67 : decode c_X2_init 67 = .ok (.iinc 1 1, 3) := by decide +kernel
theorem d_X2_init_70 : decode c_X2_init 70 = .ok (.goto (-21), 3) := by decide +kernel
theorem d_X2_init_73 : decode c_X2_init 73 = .ok (.return_, 1) := by decide +kernel
theorem d_X2_definitionBits_0 : decode c_X2_definitionBits 0 = .ok (.iconst 0, 1) := by decide +kernel
theorem d_X2_definitionBits_1 : decode c_X2_definitionBits 1 = .ok (.istore_n 1, 1) := by decide +kernel
theorem d_X2_definitionBits_2 : decode c_X2_definitionBits 2 = .ok (.iconst 0, 1) := by decide +kernel
theorem d_X2_definitionBits_3 : decode c_X2_definitionBits 3 = .ok (.istore_n 2, 1) := by decide +kernel
end
section
theorem d_X2_definitionBits_4 : decode c_X2_definitionBits 4 = .ok (.iload_n 2, 1) := by decide +kernel
theorem d_X2_definitionBits_5 : decode c_X2_definitionBits 5 = .ok (.bipush 8, 2) := by decide +kernel
theorem d_X2_definitionBits_7 : decode c_X2_definitionBits 7 = .ok (.if_icmp .ge 25, 3) := by decide +kernel
theorem d_X2_definitionBits_10 : decode c_X2_definitionBits 10 = .ok (.aload_n 0, 1) := by decide +kernel
theorem d_X2_definitionBits_11 : decode c_X2_definitionBits 11 = .ok (.getfield 18, 3) := by decide +kernel
theorem d_X2_definitionBits_14 : decode c_X2_definitionBits 14 = .ok (.iload_n 2, 1) := by decide +kernel
theorem d_X2_definitionBits_15 : decode c_X2_definitionBits 15 = .ok (.iaload, 1) := by decide +kernel
theorem d_X2_definitionBits_16 : decode c_X2_definitionBits 16 = .ok (.iconst (-1), 1) := by decide +kernel
theorem d_X2_definitionBits_17 : decode c_X2_definitionBits 17 = .ok (.if_icmp .eq 9, 3) := by decide +kernel
theorem d_X2_definitionBits_20 : decode c_X2_definitionBits 20 = .ok (.iload_n 1, 1) := by decide +kernel
theorem d_X2_definitionBits_21 : decode c_X2_definitionBits 21 = .ok (.iconst 1, 1) := by decide +kernel
theorem d_X2_definitionBits_22 : decode c_X2_definitionBits 22 = .ok (.iload_n 2, 1) := by decide +kernel
theorem d_X2_definitionBits_23 : decode c_X2_definitionBits 23 = .ok (.ishl, 1) := by decide +kernel
theorem d_X2_definitionBits_24 : decode c_X2_definitionBits 24 = .ok (.ior, 1) := by decide +kernel
theorem d_X2_definitionBits_25 : decode c_X2_definitionBits 25 = .ok (.istore_n 1, 1) := by decide +kernel
theorem d_X2_definitionBits_26 : decode c_X2_definitionBits 26 = .ok (.iinc 2 1, 3) := by decide +kernel
theorem d_X2_definitionBits_29 : decode c_X2_definitionBits 29 = .ok (.goto (-25), 3) := by decide +kernel
theorem d_X2_definitionBits_32 : decode c_X2_definitionBits 32 = .ok (.iload_n 1, 1) := by decide +kernel
theorem d_X2_definitionBits_33 : decode c_X2_definitionBits 33 = .ok (.ireturn, 1) := by decide +kernel
theorem d_X2_workOutFor_0 : decode c_X2_workOutFor 0 = .ok (.iconst 0, 1) := by decide +kernel
theorem d_X2_workOutFor_1 : decode c_X2_workOutFor 1 = .ok (.istore_n 2, 1) := by decide +kernel
theorem d_X2_workOutFor_2 : decode c_X2_workOutFor 2 = .ok (.iload_n 2, 1) := by decide +kernel
theorem d_X2_workOutFor_3 : decode c_X2_workOutFor 3 = .ok (.aload_n 0, 1) := by decide +kernel
theorem d_X2_workOutFor_4 : decode c_X2_workOutFor 4 = .ok (.getfield 12, 3) := by decide +kernel
theorem d_X2_workOutFor_7 : decode c_X2_workOutFor 7 = .ok (.getfield 39, 3) := by decide +kernel
theorem d_X2_workOutFor_10 : decode c_X2_workOutFor 10 = .ok (.if_icmp .ge 31, 3) := by decide +kernel
theorem d_X2_workOutFor_13 : decode c_X2_workOutFor 13 = .ok (.aload_n 0, 1) := by decide +kernel
theorem d_X2_workOutFor_14 : decode c_X2_workOutFor 14 = .ok (.getfield 12, 3) := by decide +kernel
theorem d_X2_workOutFor_17 : decode c_X2_workOutFor 17 = .ok (.getfield 43, 3) := by decide +kernel
theorem d_X2_workOutFor_20 : decode c_X2_workOutFor 20 = .ok (.iload_n 2, 1) := by decide +kernel
theorem d_X2_workOutFor_21 : decode c_X2_workOutFor 21 = .ok (.iaload, 1) := by decide +kernel
theorem d_X2_workOutFor_22 : decode c_X2_workOutFor 22 = .ok (.istore_n 3, 1) := by decide +kernel
theorem d_X2_workOutFor_23 : decode c_X2_workOutFor 23 = .ok (.aload_n 0, 1) := by decide +kernel
theorem d_X2_workOutFor_24 : decode c_X2_workOutFor 24 = .ok (.getfield 28, 3) := by decide +kernel
theorem d_X2_workOutFor_27 : decode c_X2_workOutFor 27 = .ok (.iload_n 3, 1) := by decide +kernel
theorem d_X2_workOutFor_28 : decode c_X2_workOutFor 28 = .ok (.aload_n 0, 1) := by decide +kernel
theorem d_X2_workOutFor_29 : decode c_X2_workOutFor 29 = .ok (.iload_n 3, 1) := by decide +kernel
theorem d_X2_workOutFor_30 : decode c_X2_workOutFor 30 = .ok (.aload_n 1, 1) := by decide +kernel
theorem d_X2_workOutFor_31 : decode c_X2_workOutFor 31 = .ok (.invokevirtual 46, 3) := by decide +kernel
theorem d_X2_workOutFor_34 : decode c_X2_workOutFor 34 = .ok (.lastore, 1) := by decide +kernel
theorem d_X2_workOutFor_35 : decode c_X2_workOutFor 35 = .ok (.iinc 2 1, 3) := by decide +kernel
theorem d_X2_workOutFor_38 : decode c_X2_workOutFor 38 = .ok (.goto (-36), 3) := by decide +kernel
theorem d_X2_workOutFor_41 : decode c_X2_workOutFor 41 = .ok (.return_, 1) := by decide +kernel
theorem d_X2_workedDefinition_0 : decode c_X2_workedDefinition 0 = .ok (.aload_n 0, 1) := by decide +kernel
theorem d_X2_workedDefinition_1 : decode c_X2_workedDefinition 1 = .ok (.aload_n 0, 1) := by decide +kernel
theorem d_X2_workedDefinition_2 : decode c_X2_workedDefinition 2 = .ok (.getfield 18, 3) := by decide +kernel
theorem d_X2_workedDefinition_5 : decode c_X2_workedDefinition 5 = .ok (.iload_n 1, 1) := by decide +kernel
theorem d_X2_workedDefinition_6 : decode c_X2_workedDefinition 6 = .ok (.iaload, 1) := by decide +kernel
theorem d_X2_workedDefinition_7 : decode c_X2_workedDefinition 7 = .ok (.invokevirtual 50, 3) := by decide +kernel
theorem d_X2_workedDefinition_10 : decode c_X2_workedDefinition 10 = .ok (.lreturn, 1) := by decide +kernel
theorem d_X2_workedOrEmpty_0 : decode c_X2_workedOrEmpty 0 = .ok (.iload_n 1, 1) := by decide +kernel
theorem d_X2_workedOrEmpty_1 : decode c_X2_workedOrEmpty 1 = .ok (.iconst (-1), 1) := by decide +kernel
theorem d_X2_workedOrEmpty_2 : decode c_X2_workedOrEmpty 2 = .ok (.if_icmp .ne 9, 3) := by decide +kernel
theorem d_X2_workedOrEmpty_5 : decode c_X2_workedOrEmpty 5 = .ok (.ldc2_w 54, 3) := by decide +kernel
theorem d_X2_workedOrEmpty_8 : decode c_X2_workedOrEmpty 8 = .ok (.goto 9, 3) := by decide +kernel
theorem d_X2_workedOrEmpty_11 : decode c_X2_workedOrEmpty 11 = .ok (.aload_n 0, 1) := by decide +kernel
theorem d_X2_workedOrEmpty_12 : decode c_X2_workedOrEmpty 12 = .ok (.getfield 28, 3) := by decide +kernel
theorem d_X2_workedOrEmpty_15 : decode c_X2_workedOrEmpty 15 = .ok (.iload_n 1, 1) := by decide +kernel
theorem d_X2_workedOrEmpty_16 : decode c_X2_workedOrEmpty 16 = .ok (.laload, 1) := by decide +kernel
theorem d_X2_workedOrEmpty_17 : decode c_X2_workedOrEmpty 17 = .ok (.lreturn, 1) := by decide +kernel
theorem d_X2_workedOut_0 : decode c_X2_workedOut 0 = .ok (.aload_n 0, 1) := by decide +kernel
theorem d_X2_workedOut_1 : decode c_X2_workedOut 1 = .ok (.getfield 12, 3) := by decide +kernel
theorem d_X2_workedOut_4 : decode c_X2_workedOut 4 = .ok (.getfield 56, 3) := by decide +kernel
theorem d_X2_workedOut_7 : decode c_X2_workedOut 7 = .ok (.iload_n 1, 1) := by decide +kernel
theorem d_X2_workedOut_8 : decode c_X2_workedOut 8 = .ok (.iaload, 1) := by decide +kernel
theorem d_X2_workedOut_9 : decode c_X2_workedOut 9 = .ok (.istore_n 3, 1) := by decide +kernel
theorem d_X2_workedOut_10 : decode c_X2_workedOut 10 = .ok (.aload_n 0, 1) := by decide +kernel
theorem d_X2_workedOut_11 : decode c_X2_workedOut 11 = .ok (.getfield 12, 3) := by decide +kernel
theorem d_X2_workedOut_14 : decode c_X2_workedOut 14 = .ok (.getfield 59, 3) := by decide +kernel
theorem d_X2_workedOut_17 : decode c_X2_workedOut 17 = .ok (.iload_n 1, 1) := by decide +kernel
theorem d_X2_workedOut_18 : decode c_X2_workedOut 18 = .ok (.iaload, 1) := by decide +kernel
theorem d_X2_workedOut_19 : decode c_X2_workedOut 19 = .ok (.istore 4, 2) := by decide +kernel
theorem d_X2_workedOut_21 : decode c_X2_workedOut 21 = .ok (.aload_n 0, 1) := by decide +kernel
theorem d_X2_workedOut_22 : decode c_X2_workedOut 22 = .ok (.getfield 12, 3) := by decide +kernel
theorem d_X2_workedOut_25 : decode c_X2_workedOut 25 = .ok (.getfield 62, 3) := by decide +kernel
theorem d_X2_workedOut_28 : decode c_X2_workedOut 28 = .ok (.iload_n 1, 1) := by decide +kernel
theorem d_X2_workedOut_29 : decode c_X2_workedOut 29 = .ok (.iaload, 1) := by decide +kernel
theorem d_X2_workedOut_30 : decode c_X2_workedOut 30 = .ok (.istore 5, 2) := by decide +kernel
theorem d_X2_workedOut_32 : decode c_X2_workedOut 32 = .ok (.aload_n 0, 1) := by decide +kernel
theorem d_X2_workedOut_33 : decode c_X2_workedOut 33 = .ok (.getfield 12, 3) := by decide +kernel
theorem d_X2_workedOut_36 : decode c_X2_workedOut 36 = .ok (.getfield 65, 3) := by decide +kernel
theorem d_X2_workedOut_39 : decode c_X2_workedOut 39 = .ok (.iload_n 1, 1) := by decide +kernel
theorem d_X2_workedOut_40 : decode c_X2_workedOut 40 = .ok (.iaload, 1) := by decide +kernel
theorem d_X2_workedOut_41 : decode c_X2_workedOut 41 = .ok (.istore 6, 2) := by decide +kernel
theorem d_X2_workedOut_43 : decode c_X2_workedOut 43 = .ok (.iload_n 3, 1) := by decide +kernel
theorem d_X2_workedOut_44 : decode c_X2_workedOut 44 = .ok (.tableswitch 284 0 19 #[96, 100, 109, 116, 284, 284, 284, 284, 284, 284, 284, 123, 148, 159, 177, 195, 220, 224, 248, 266], 96) := by decide +kernel
theorem d_X2_workedOut_140 : decode c_X2_workedOut 140 = .ok (.iload 4, 2) := by decide +kernel
theorem d_X2_workedOut_142 : decode c_X2_workedOut 142 = .ok (.i2l, 1) := by decide +kernel
theorem d_X2_workedOut_143 : decode c_X2_workedOut 143 = .ok (.lreturn, 1) := by decide +kernel
theorem d_X2_workedOut_144 : decode c_X2_workedOut 144 = .ok (.aload_n 2, 1) := by decide +kernel
theorem d_X2_workedOut_145 : decode c_X2_workedOut 145 = .ok (.getfield 68, 3) := by decide +kernel
theorem d_X2_workedOut_148 : decode c_X2_workedOut 148 = .ok (.iload 4, 2) := by decide +kernel
theorem d_X2_workedOut_150 : decode c_X2_workedOut 150 = .ok (.iaload, 1) := by decide +kernel
theorem d_X2_workedOut_151 : decode c_X2_workedOut 151 = .ok (.i2l, 1) := by decide +kernel
theorem d_X2_workedOut_152 : decode c_X2_workedOut 152 = .ok (.lreturn, 1) := by decide +kernel
theorem d_X2_workedOut_153 : decode c_X2_workedOut 153 = .ok (.aload_n 0, 1) := by decide +kernel
theorem d_X2_workedOut_154 : decode c_X2_workedOut 154 = .ok (.iload 4, 2) := by decide +kernel
theorem d_X2_workedOut_156 : decode c_X2_workedOut 156 = .ok (.invokevirtual 73, 3) := by decide +kernel
theorem d_X2_workedOut_159 : decode c_X2_workedOut 159 = .ok (.lreturn, 1) := by decide +kernel
theorem d_X2_workedOut_160 : decode c_X2_workedOut 160 = .ok (.aload_n 2, 1) := by decide +kernel
theorem d_X2_workedOut_161 : decode c_X2_workedOut 161 = .ok (.iload 4, 2) := by decide +kernel
theorem d_X2_workedOut_163 : decode c_X2_workedOut 163 = .ok (.invokevirtual 76, 3) := by decide +kernel
theorem d_X2_workedOut_166 : decode c_X2_workedOut 166 = .ok (.lreturn, 1) := by decide +kernel
theorem d_X2_workedOut_167 : decode c_X2_workedOut 167 = .ok (.aload_n 0, 1) := by decide +kernel
theorem d_X2_workedOut_168 : decode c_X2_workedOut 168 = .ok (.getfield 28, 3) := by decide +kernel
theorem d_X2_workedOut_171 : decode c_X2_workedOut 171 = .ok (.iload 4, 2) := by decide +kernel
theorem d_X2_workedOut_173 : decode c_X2_workedOut 173 = .ok (.laload, 1) := by decide +kernel
theorem d_X2_workedOut_174 : decode c_X2_workedOut 174 = .ok (.aload_n 0, 1) := by decide +kernel
theorem d_X2_workedOut_175 : decode c_X2_workedOut 175 = .ok (.getfield 28, 3) := by decide +kernel
theorem d_X2_workedOut_178 : decode c_X2_workedOut 178 = .ok (.iload 5, 2) := by decide +kernel
theorem d_X2_workedOut_180 : decode c_X2_workedOut 180 = .ok (.laload, 1) := by decide +kernel
theorem d_X2_workedOut_181 : decode c_X2_workedOut 181 = .ok (.aload_n 0, 1) := by decide +kernel
theorem d_X2_workedOut_182 : decode c_X2_workedOut 182 = .ok (.getfield 28, 3) := by decide +kernel
theorem d_X2_workedOut_185 : decode c_X2_workedOut 185 = .ok (.iload 6, 2) := by decide +kernel
theorem d_X2_workedOut_187 : decode c_X2_workedOut 187 = .ok (.laload, 1) := by decide +kernel
theorem d_X2_workedOut_188 : decode c_X2_workedOut 188 = .ok (.invokestatic 79, 3) := by decide +kernel
theorem d_X2_workedOut_191 : decode c_X2_workedOut 191 = .ok (.lreturn, 1) := by decide +kernel
theorem d_X2_workedOut_192 : decode c_X2_workedOut 192 = .ok (.aload_n 0, 1) := by decide +kernel
theorem d_X2_workedOut_193 : decode c_X2_workedOut 193 = .ok (.getfield 28, 3) := by decide +kernel
theorem d_X2_workedOut_196 : decode c_X2_workedOut 196 = .ok (.iload 4, 2) := by decide +kernel
theorem d_X2_workedOut_198 : decode c_X2_workedOut 198 = .ok (.laload, 1) := by decide +kernel
theorem d_X2_workedOut_199 : decode c_X2_workedOut 199 = .ok (.invokestatic 85, 3) := by decide +kernel
theorem d_X2_workedOut_202 : decode c_X2_workedOut 202 = .ok (.lreturn, 1) := by decide +kernel
theorem d_X2_workedOut_203 : decode c_X2_workedOut 203 = .ok (.aload_n 0, 1) := by decide +kernel
theorem d_X2_workedOut_204 : decode c_X2_workedOut 204 = .ok (.getfield 28, 3) := by decide +kernel
theorem d_X2_workedOut_207 : decode c_X2_workedOut 207 = .ok (.iload 4, 2) := by decide +kernel
theorem d_X2_workedOut_209 : decode c_X2_workedOut 209 = .ok (.laload, 1) := by decide +kernel
theorem d_X2_workedOut_210 : decode c_X2_workedOut 210 = .ok (.aload_n 0, 1) := by decide +kernel
theorem d_X2_workedOut_211 : decode c_X2_workedOut 211 = .ok (.getfield 28, 3) := by decide +kernel
theorem d_X2_workedOut_214 : decode c_X2_workedOut 214 = .ok (.iload 5, 2) := by decide +kernel
theorem d_X2_workedOut_216 : decode c_X2_workedOut 216 = .ok (.laload, 1) := by decide +kernel
theorem d_X2_workedOut_217 : decode c_X2_workedOut 217 = .ok (.invokestatic 89, 3) := by decide +kernel
theorem d_X2_workedOut_220 : decode c_X2_workedOut 220 = .ok (.lreturn, 1) := by decide +kernel
theorem d_X2_workedOut_221 : decode c_X2_workedOut 221 = .ok (.aload_n 0, 1) := by decide +kernel
theorem d_X2_workedOut_222 : decode c_X2_workedOut 222 = .ok (.getfield 28, 3) := by decide +kernel
theorem d_X2_workedOut_225 : decode c_X2_workedOut 225 = .ok (.iload 4, 2) := by decide +kernel
theorem d_X2_workedOut_227 : decode c_X2_workedOut 227 = .ok (.laload, 1) := by decide +kernel
theorem d_X2_workedOut_228 : decode c_X2_workedOut 228 = .ok (.aload_n 0, 1) := by decide +kernel
theorem d_X2_workedOut_229 : decode c_X2_workedOut 229 = .ok (.getfield 28, 3) := by decide +kernel
theorem d_X2_workedOut_232 : decode c_X2_workedOut 232 = .ok (.iload 5, 2) := by decide +kernel
theorem d_X2_workedOut_234 : decode c_X2_workedOut 234 = .ok (.laload, 1) := by decide +kernel
theorem d_X2_workedOut_235 : decode c_X2_workedOut 235 = .ok (.invokestatic 93, 3) := by decide +kernel
theorem d_X2_workedOut_238 : decode c_X2_workedOut 238 = .ok (.lreturn, 1) := by decide +kernel
theorem d_X2_workedOut_239 : decode c_X2_workedOut 239 = .ok (.aload_n 0, 1) := by decide +kernel
theorem d_X2_workedOut_240 : decode c_X2_workedOut 240 = .ok (.getfield 28, 3) := by decide +kernel
theorem d_X2_workedOut_243 : decode c_X2_workedOut 243 = .ok (.iload 4, 2) := by decide +kernel
theorem d_X2_workedOut_245 : decode c_X2_workedOut 245 = .ok (.laload, 1) := by decide +kernel
theorem d_X2_workedOut_246 : decode c_X2_workedOut 246 = .ok (.aload_n 0, 1) := by decide +kernel
theorem d_X2_workedOut_247 : decode c_X2_workedOut 247 = .ok (.getfield 28, 3) := by decide +kernel
theorem d_X2_workedOut_250 : decode c_X2_workedOut 250 = .ok (.iload 5, 2) := by decide +kernel
theorem d_X2_workedOut_252 : decode c_X2_workedOut 252 = .ok (.laload, 1) := by decide +kernel
theorem d_X2_workedOut_253 : decode c_X2_workedOut 253 = .ok (.aload_n 0, 1) := by decide +kernel
theorem d_X2_workedOut_254 : decode c_X2_workedOut 254 = .ok (.getfield 28, 3) := by decide +kernel
theorem d_X2_workedOut_257 : decode c_X2_workedOut 257 = .ok (.iload 6, 2) := by decide +kernel
theorem d_X2_workedOut_259 : decode c_X2_workedOut 259 = .ok (.laload, 1) := by decide +kernel
theorem d_X2_workedOut_260 : decode c_X2_workedOut 260 = .ok (.invokestatic 96, 3) := by decide +kernel
theorem d_X2_workedOut_263 : decode c_X2_workedOut 263 = .ok (.lreturn, 1) := by decide +kernel
theorem d_X2_workedOut_264 : decode c_X2_workedOut 264 = .ok (.ldc2_w 54, 3) := by decide +kernel
theorem d_X2_workedOut_267 : decode c_X2_workedOut 267 = .ok (.lreturn, 1) := by decide +kernel
theorem d_X2_workedOut_268 : decode c_X2_workedOut 268 = .ok (.aload_n 0, 1) := by decide +kernel
theorem d_X2_workedOut_269 : decode c_X2_workedOut 269 = .ok (.iload 4, 2) := by decide +kernel
theorem d_X2_workedOut_271 : decode c_X2_workedOut 271 = .ok (.invokevirtual 50, 3) := by decide +kernel
theorem d_X2_workedOut_274 : decode c_X2_workedOut 274 = .ok (.aload_n 0, 1) := by decide +kernel
theorem d_X2_workedOut_275 : decode c_X2_workedOut 275 = .ok (.getfield 28, 3) := by decide +kernel
theorem d_X2_workedOut_278 : decode c_X2_workedOut 278 = .ok (.iload 5, 2) := by decide +kernel
theorem d_X2_workedOut_280 : decode c_X2_workedOut 280 = .ok (.laload, 1) := by decide +kernel
theorem d_X2_workedOut_281 : decode c_X2_workedOut 281 = .ok (.aload_n 0, 1) := by decide +kernel
theorem d_X2_workedOut_282 : decode c_X2_workedOut 282 = .ok (.getfield 28, 3) := by decide +kernel
theorem d_X2_workedOut_285 : decode c_X2_workedOut 285 = .ok (.iload 6, 2) := by decide +kernel
theorem d_X2_workedOut_287 : decode c_X2_workedOut 287 = .ok (.laload, 1) := by decide +kernel
theorem d_X2_workedOut_288 : decode c_X2_workedOut 288 = .ok (.invokestatic 99, 3) := by decide +kernel
theorem d_X2_workedOut_291 : decode c_X2_workedOut 291 = .ok (.lreturn, 1) := by decide +kernel
theorem d_X2_workedOut_292 : decode c_X2_workedOut 292 = .ok (.aload_n 0, 1) := by decide +kernel
theorem d_X2_workedOut_293 : decode c_X2_workedOut 293 = .ok (.getfield 28, 3) := by decide +kernel
theorem d_X2_workedOut_296 : decode c_X2_workedOut 296 = .ok (.iload 4, 2) := by decide +kernel
theorem d_X2_workedOut_298 : decode c_X2_workedOut 298 = .ok (.laload, 1) := by decide +kernel
theorem d_X2_workedOut_299 : decode c_X2_workedOut 299 = .ok (.aload_n 0, 1) := by decide +kernel
theorem d_X2_workedOut_300 : decode c_X2_workedOut 300 = .ok (.getfield 28, 3) := by decide +kernel
theorem d_X2_workedOut_303 : decode c_X2_workedOut 303 = .ok (.iload 5, 2) := by decide +kernel
theorem d_X2_workedOut_305 : decode c_X2_workedOut 305 = .ok (.laload, 1) := by decide +kernel
theorem d_X2_workedOut_306 : decode c_X2_workedOut 306 = .ok (.invokestatic 102, 3) := by decide +kernel
theorem d_X2_workedOut_309 : decode c_X2_workedOut 309 = .ok (.lreturn, 1) := by decide +kernel
theorem d_X2_workedOut_310 : decode c_X2_workedOut 310 = .ok (.aload_n 0, 1) := by decide +kernel
theorem d_X2_workedOut_311 : decode c_X2_workedOut 311 = .ok (.getfield 24, 3) := by decide +kernel
theorem d_X2_workedOut_314 : decode c_X2_workedOut 314 = .ok (.iload 4, 2) := by decide +kernel
theorem d_X2_workedOut_316 : decode c_X2_workedOut 316 = .ok (.aaload, 1) := by decide +kernel
theorem d_X2_workedOut_317 : decode c_X2_workedOut 317 = .ok (.aload_n 0, 1) := by decide +kernel
theorem d_X2_workedOut_318 : decode c_X2_workedOut 318 = .ok (.getfield 28, 3) := by decide +kernel
theorem d_X2_workedOut_321 : decode c_X2_workedOut 321 = .ok (.iload 5, 2) := by decide +kernel
theorem d_X2_workedOut_323 : decode c_X2_workedOut 323 = .ok (.laload, 1) := by decide +kernel
theorem d_X2_workedOut_324 : decode c_X2_workedOut 324 = .ok (.invokevirtual 105, 3) := by decide +kernel
theorem d_X2_workedOut_327 : decode c_X2_workedOut 327 = .ok (.lreturn, 1) := by decide +kernel
theorem d_X2_workedOut_328 : decode c_X2_workedOut 328 = .ok (.iload_n 3, 1) := by decide +kernel
theorem d_X2_workedOut_329 : decode c_X2_workedOut 329 = .ok (.aload_n 0, 1) := by decide +kernel
theorem d_X2_workedOut_330 : decode c_X2_workedOut 330 = .ok (.getfield 28, 3) := by decide +kernel
theorem d_X2_workedOut_333 : decode c_X2_workedOut 333 = .ok (.iload 4, 2) := by decide +kernel
theorem d_X2_workedOut_335 : decode c_X2_workedOut 335 = .ok (.laload, 1) := by decide +kernel
theorem d_X2_workedOut_336 : decode c_X2_workedOut 336 = .ok (.aload_n 0, 1) := by decide +kernel
theorem d_X2_workedOut_337 : decode c_X2_workedOut 337 = .ok (.getfield 28, 3) := by decide +kernel
theorem d_X2_workedOut_340 : decode c_X2_workedOut 340 = .ok (.iload 5, 2) := by decide +kernel
theorem d_X2_workedOut_342 : decode c_X2_workedOut 342 = .ok (.laload, 1) := by decide +kernel
theorem d_X2_workedOut_343 : decode c_X2_workedOut 343 = .ok (.invokestatic 108, 3) := by decide +kernel
theorem d_X2_workedOut_346 : decode c_X2_workedOut 346 = .ok (.lreturn, 1) := by decide +kernel
theorem d_X3_init_0 : decode c_X3_init 0 = .ok (.aload_n 0, 1) := by decide +kernel
theorem d_X3_init_1 : decode c_X3_init 1 = .ok (.invokespecial 3, 3) := by decide +kernel
theorem d_X3_init_4 : decode c_X3_init 4 = .ok (.aload_n 0, 1) := by decide +kernel
theorem d_X3_init_5 : decode c_X3_init 5 = .ok (.sipush 288, 3) := by decide +kernel
theorem d_X3_init_8 : decode c_X3_init 8 = .ok (.newarray .long, 2) := by decide +kernel
theorem d_X3_init_10 : decode c_X3_init 10 = .ok (.putfield 9, 3) := by decide +kernel
theorem d_X3_init_13 : decode c_X3_init 13 = .ok (.aload_n 0, 1) := by decide +kernel
theorem d_X3_init_14 : decode c_X3_init 14 = .ok (.bipush 96, 2) := by decide +kernel
theorem d_X3_init_16 : decode c_X3_init 16 = .ok (.newarray .int, 2) := by decide +kernel
theorem d_X3_init_18 : decode c_X3_init 18 = .ok (.putfield 15, 3) := by decide +kernel
theorem d_X3_init_21 : decode c_X3_init 21 = .ok (.aload_n 0, 1) := by decide +kernel
theorem d_X3_init_22 : decode c_X3_init 22 = .ok (.bipush 16, 2) := by decide +kernel
theorem d_X3_init_24 : decode c_X3_init 24 = .ok (.newarray .boolean, 2) := by decide +kernel
theorem d_X3_init_26 : decode c_X3_init 26 = .ok (.putfield 19, 3) := by decide +kernel
theorem d_X3_init_29 : decode c_X3_init 29 = .ok (.return_, 1) := by decide +kernel
theorem d_X3_has_0 : decode c_X3_has 0 = .ok (.iload_n 1, 1) := by decide +kernel
theorem d_X3_has_1 : decode c_X3_has 1 = .ok (.aload_n 0, 1) := by decide +kernel
theorem d_X3_has_2 : decode c_X3_has 2 = .ok (.getfield 23, 3) := by decide +kernel
theorem d_X3_has_5 : decode c_X3_has 5 = .ok (.invokestatic 27, 3) := by decide +kernel
theorem d_X3_has_8 : decode c_X3_has 8 = .ok (.ireturn, 1) := by decide +kernel
theorem d_X3_stands_0 : decode c_X3_stands 0 = .ok (.aload_n 0, 1) := by decide +kernel
theorem d_X3_stands_1 : decode c_X3_stands 1 = .ok (.iload_n 1, 1) := by decide +kernel
theorem d_X3_stands_2 : decode c_X3_stands 2 = .ok (.invokevirtual 31, 3) := by decide +kernel
theorem d_X3_stands_5 : decode c_X3_stands 5 = .ok (.ifCond .eq 16, 3) := by decide +kernel
theorem d_X3_stands_8 : decode c_X3_stands 8 = .ok (.aload_n 0, 1) := by decide +kernel
theorem d_X3_stands_9 : decode c_X3_stands 9 = .ok (.getfield 19, 3) := by decide +kernel
theorem d_X3_stands_12 : decode c_X3_stands 12 = .ok (.iload_n 1, 1) := by decide +kernel
theorem d_X3_stands_13 : decode c_X3_stands 13 = .ok (.baload, 1) := by decide +kernel
theorem d_X3_stands_14 : decode c_X3_stands 14 = .ok (.ifCond .ne 7, 3) := by decide +kernel
theorem d_X3_stands_17 : decode c_X3_stands 17 = .ok (.iconst 1, 1) := by decide +kernel
theorem d_X3_stands_18 : decode c_X3_stands 18 = .ok (.goto 4, 3) := by decide +kernel
theorem d_X3_stands_21 : decode c_X3_stands 21 = .ok (.iconst 0, 1) := by decide +kernel
theorem d_X3_stands_22 : decode c_X3_stands 22 = .ok (.ireturn, 1) := by decide +kernel
theorem d_X3_amountOf_0 : decode c_X3_amountOf 0 = .ok (.aload_n 0, 1) := by decide +kernel
theorem d_X3_amountOf_1 : decode c_X3_amountOf 1 = .ok (.getfield 9, 3) := by decide +kernel
theorem d_X3_amountOf_4 : decode c_X3_amountOf 4 = .ok (.iload_n 1, 1) := by decide +kernel
theorem d_X3_amountOf_5 : decode c_X3_amountOf 5 = .ok (.iload_n 2, 1) := by decide +kernel
theorem d_X3_amountOf_6 : decode c_X3_amountOf 6 = .ok (.invokestatic 35, 3) := by decide +kernel
theorem d_X3_amountOf_9 : decode c_X3_amountOf 9 = .ok (.iload_n 3, 1) := by decide +kernel
theorem d_X3_amountOf_10 : decode c_X3_amountOf 10 = .ok (.iadd, 1) := by decide +kernel
theorem d_X3_amountOf_11 : decode c_X3_amountOf 11 = .ok (.laload, 1) := by decide +kernel
theorem d_X3_amountOf_12 : decode c_X3_amountOf 12 = .ok (.lreturn, 1) := by decide +kernel
theorem d_X3_hasSlip_0 : decode c_X3_hasSlip 0 = .ok (.aload_n 0, 1) := by decide +kernel
theorem d_X3_hasSlip_1 : decode c_X3_hasSlip 1 = .ok (.getfield 9, 3) := by decide +kernel
theorem d_X3_hasSlip_4 : decode c_X3_hasSlip 4 = .ok (.iload_n 1, 1) := by decide +kernel
theorem d_X3_hasSlip_5 : decode c_X3_hasSlip 5 = .ok (.iload_n 2, 1) := by decide +kernel
theorem d_X3_hasSlip_6 : decode c_X3_hasSlip 6 = .ok (.invokestatic 35, 3) := by decide +kernel
theorem d_X3_hasSlip_9 : decode c_X3_hasSlip 9 = .ok (.laload, 1) := by decide +kernel
theorem d_X3_hasSlip_10 : decode c_X3_hasSlip 10 = .ok (.ldc2_w 39, 3) := by decide +kernel
theorem d_X3_hasSlip_13 : decode c_X3_hasSlip 13 = .ok (.lcmp, 1) := by decide +kernel
theorem d_X3_hasSlip_14 : decode c_X3_hasSlip 14 = .ok (.ifCond .eq 7, 3) := by decide +kernel
theorem d_X3_hasSlip_17 : decode c_X3_hasSlip 17 = .ok (.iconst 1, 1) := by decide +kernel
theorem d_X3_hasSlip_18 : decode c_X3_hasSlip 18 = .ok (.goto 4, 3) := by decide +kernel
theorem d_X3_hasSlip_21 : decode c_X3_hasSlip 21 = .ok (.iconst 0, 1) := by decide +kernel
theorem d_X3_hasSlip_22 : decode c_X3_hasSlip 22 = .ok (.ireturn, 1) := by decide +kernel
theorem d_X3_placeOf_0 : decode c_X3_placeOf 0 = .ok (.iload_n 0, 1) := by decide +kernel
theorem d_X3_placeOf_1 : decode c_X3_placeOf 1 = .ok (.bipush 6, 2) := by decide +kernel
theorem d_X3_placeOf_3 : decode c_X3_placeOf 3 = .ok (.imul, 1) := by decide +kernel
theorem d_X3_placeOf_4 : decode c_X3_placeOf 4 = .ok (.iload_n 1, 1) := by decide +kernel
theorem d_X3_placeOf_5 : decode c_X3_placeOf 5 = .ok (.iadd, 1) := by decide +kernel
theorem d_X3_placeOf_6 : decode c_X3_placeOf 6 = .ok (.iconst 3, 1) := by decide +kernel
theorem d_X3_placeOf_7 : decode c_X3_placeOf 7 = .ok (.imul, 1) := by decide +kernel
theorem d_X3_placeOf_8 : decode c_X3_placeOf 8 = .ok (.ireturn, 1) := by decide +kernel
theorem d_X3_wipe_0 : decode c_X3_wipe 0 = .ok (.aload_n 0, 1) := by decide +kernel
theorem d_X3_wipe_1 : decode c_X3_wipe 1 = .ok (.iload_n 1, 1) := by decide +kernel
theorem d_X3_wipe_2 : decode c_X3_wipe 2 = .ok (.iload_n 2, 1) := by decide +kernel
theorem d_X3_wipe_3 : decode c_X3_wipe 3 = .ok (.ldc2_w 39, 3) := by decide +kernel
theorem d_X3_wipe_6 : decode c_X3_wipe 6 = .ok (.ldc2_w 39, 3) := by decide +kernel
theorem d_X3_wipe_9 : decode c_X3_wipe 9 = .ok (.ldc2_w 39, 3) := by decide +kernel
theorem d_X3_wipe_12 : decode c_X3_wipe 12 = .ok (.invokevirtual 41, 3) := by decide +kernel
theorem d_X3_wipe_15 : decode c_X3_wipe 15 = .ok (.aload_n 0, 1) := by decide +kernel
theorem d_X3_wipe_16 : decode c_X3_wipe 16 = .ok (.iload_n 1, 1) := by decide +kernel
theorem d_X3_wipe_17 : decode c_X3_wipe 17 = .ok (.iload_n 2, 1) := by decide +kernel
theorem d_X3_wipe_18 : decode c_X3_wipe 18 = .ok (.iconst 0, 1) := by decide +kernel
theorem d_X3_wipe_19 : decode c_X3_wipe 19 = .ok (.invokevirtual 45, 3) := by decide +kernel
theorem d_X3_wipe_22 : decode c_X3_wipe 22 = .ok (.return_, 1) := by decide +kernel
theorem d_X3_writeSlip_0 : decode c_X3_writeSlip 0 = .ok (.iload_n 1, 1) := by decide +kernel
theorem d_X3_writeSlip_1 : decode c_X3_writeSlip 1 = .ok (.iload_n 2, 1) := by decide +kernel
theorem d_X3_writeSlip_2 : decode c_X3_writeSlip 2 = .ok (.invokestatic 35, 3) := by decide +kernel
theorem d_X3_writeSlip_5 : decode c_X3_writeSlip 5 = .ok (.istore 9, 2) := by decide +kernel
theorem d_X3_writeSlip_7 : decode c_X3_writeSlip 7 = .ok (.aload_n 0, 1) := by decide +kernel
theorem d_X3_writeSlip_8 : decode c_X3_writeSlip 8 = .ok (.getfield 9, 3) := by decide +kernel
theorem d_X3_writeSlip_11 : decode c_X3_writeSlip 11 = .ok (.iload 9, 2) := by decide +kernel
theorem d_X3_writeSlip_13 : decode c_X3_writeSlip 13 = .ok (.iconst 0, 1) := by decide +kernel
theorem d_X3_writeSlip_14 : decode c_X3_writeSlip 14 = .ok (.iadd, 1) := by decide +kernel
theorem d_X3_writeSlip_15 : decode c_X3_writeSlip 15 = .ok (.lload_n 3, 1) := by decide +kernel
theorem d_X3_writeSlip_16 : decode c_X3_writeSlip 16 = .ok (.lastore, 1) := by decide +kernel
theorem d_X3_writeSlip_17 : decode c_X3_writeSlip 17 = .ok (.aload_n 0, 1) := by decide +kernel
theorem d_X3_writeSlip_18 : decode c_X3_writeSlip 18 = .ok (.getfield 9, 3) := by decide +kernel
theorem d_X3_writeSlip_21 : decode c_X3_writeSlip 21 = .ok (.iload 9, 2) := by decide +kernel
theorem d_X3_writeSlip_23 : decode c_X3_writeSlip 23 = .ok (.iconst 1, 1) := by decide +kernel
theorem d_X3_writeSlip_24 : decode c_X3_writeSlip 24 = .ok (.iadd, 1) := by decide +kernel
theorem d_X3_writeSlip_25 : decode c_X3_writeSlip 25 = .ok (.lload 5, 2) := by decide +kernel
theorem d_X3_writeSlip_27 : decode c_X3_writeSlip 27 = .ok (.lastore, 1) := by decide +kernel
theorem d_X3_writeSlip_28 : decode c_X3_writeSlip 28 = .ok (.aload_n 0, 1) := by decide +kernel
theorem d_X3_writeSlip_29 : decode c_X3_writeSlip 29 = .ok (.getfield 9, 3) := by decide +kernel
theorem d_X3_writeSlip_32 : decode c_X3_writeSlip 32 = .ok (.iload 9, 2) := by decide +kernel
theorem d_X3_writeSlip_34 : decode c_X3_writeSlip 34 = .ok (.iconst 2, 1) := by decide +kernel
theorem d_X3_writeSlip_35 : decode c_X3_writeSlip 35 = .ok (.iadd, 1) := by decide +kernel
theorem d_X3_writeSlip_36 : decode c_X3_writeSlip 36 = .ok (.lload 7, 2) := by decide +kernel
theorem d_X3_writeSlip_38 : decode c_X3_writeSlip 38 = .ok (.lastore, 1) := by decide +kernel
theorem d_X3_writeSlip_39 : decode c_X3_writeSlip 39 = .ok (.return_, 1) := by decide +kernel
theorem d_X3_hold_0 : decode c_X3_hold 0 = .ok (.aload_n 0, 1) := by decide +kernel
theorem d_X3_hold_1 : decode c_X3_hold 1 = .ok (.getfield 15, 3) := by decide +kernel
theorem d_X3_hold_4 : decode c_X3_hold 4 = .ok (.iload_n 1, 1) := by decide +kernel
theorem d_X3_hold_5 : decode c_X3_hold 5 = .ok (.bipush 6, 2) := by decide +kernel
theorem d_X3_hold_7 : decode c_X3_hold 7 = .ok (.imul, 1) := by decide +kernel
theorem d_X3_hold_8 : decode c_X3_hold 8 = .ok (.iload_n 2, 1) := by decide +kernel
theorem d_X3_hold_9 : decode c_X3_hold 9 = .ok (.iadd, 1) := by decide +kernel
theorem d_X3_hold_10 : decode c_X3_hold 10 = .ok (.iload_n 3, 1) := by decide +kernel
theorem d_X3_hold_11 : decode c_X3_hold 11 = .ok (.iastore, 1) := by decide +kernel
theorem d_X3_hold_12 : decode c_X3_hold 12 = .ok (.return_, 1) := by decide +kernel
theorem d_X3_slipsOf_0 : decode c_X3_slipsOf 0 = .ok (.iconst 0, 1) := by decide +kernel
theorem d_X3_slipsOf_1 : decode c_X3_slipsOf 1 = .ok (.istore_n 2, 1) := by decide +kernel
theorem d_X3_slipsOf_2 : decode c_X3_slipsOf 2 = .ok (.iconst 0, 1) := by decide +kernel
theorem d_X3_slipsOf_3 : decode c_X3_slipsOf 3 = .ok (.istore_n 3, 1) := by decide +kernel
theorem d_X3_slipsOf_4 : decode c_X3_slipsOf 4 = .ok (.iload_n 3, 1) := by decide +kernel
theorem d_X3_slipsOf_5 : decode c_X3_slipsOf 5 = .ok (.bipush 6, 2) := by decide +kernel
theorem d_X3_slipsOf_7 : decode c_X3_slipsOf 7 = .ok (.if_icmp .ge 21, 3) := by decide +kernel
theorem d_X3_slipsOf_10 : decode c_X3_slipsOf 10 = .ok (.aload_n 0, 1) := by decide +kernel
theorem d_X3_slipsOf_11 : decode c_X3_slipsOf 11 = .ok (.iload_n 1, 1) := by decide +kernel
theorem d_X3_slipsOf_12 : decode c_X3_slipsOf 12 = .ok (.iload_n 3, 1) := by decide +kernel
theorem d_X3_slipsOf_13 : decode c_X3_slipsOf 13 = .ok (.invokevirtual 49, 3) := by decide +kernel
theorem d_X3_slipsOf_16 : decode c_X3_slipsOf 16 = .ok (.ifCond .eq 6, 3) := by decide +kernel
theorem d_X3_slipsOf_19 : decode c_X3_slipsOf 19 = .ok (.iinc 2 1, 3) := by decide +kernel
theorem d_X3_slipsOf_22 : decode c_X3_slipsOf 22 = .ok (.iinc 3 1, 3) := by decide +kernel
theorem d_X3_slipsOf_25 : decode c_X3_slipsOf 25 = .ok (.goto (-21), 3) := by decide +kernel
theorem d_X3_slipsOf_28 : decode c_X3_slipsOf 28 = .ok (.iload_n 2, 1) := by decide +kernel
theorem d_X3_slipsOf_29 : decode c_X3_slipsOf 29 = .ok (.ireturn, 1) := by decide +kernel
theorem d_X3_slipsStanding_0 : decode c_X3_slipsStanding 0 = .ok (.iconst 0, 1) := by decide +kernel
theorem d_X3_slipsStanding_1 : decode c_X3_slipsStanding 1 = .ok (.istore_n 1, 1) := by decide +kernel
theorem d_X3_slipsStanding_2 : decode c_X3_slipsStanding 2 = .ok (.iconst 0, 1) := by decide +kernel
theorem d_X3_slipsStanding_3 : decode c_X3_slipsStanding 3 = .ok (.istore_n 2, 1) := by decide +kernel
theorem d_X3_slipsStanding_4 : decode c_X3_slipsStanding 4 = .ok (.iload_n 2, 1) := by decide +kernel
theorem d_X3_slipsStanding_5 : decode c_X3_slipsStanding 5 = .ok (.aload_n 0, 1) := by decide +kernel
theorem d_X3_slipsStanding_6 : decode c_X3_slipsStanding 6 = .ok (.getfield 23, 3) := by decide +kernel
theorem d_X3_slipsStanding_9 : decode c_X3_slipsStanding 9 = .ok (.if_icmp .ge 26, 3) := by decide +kernel
theorem d_X3_slipsStanding_12 : decode c_X3_slipsStanding 12 = .ok (.aload_n 0, 1) := by decide +kernel
theorem d_X3_slipsStanding_13 : decode c_X3_slipsStanding 13 = .ok (.getfield 19, 3) := by decide +kernel
theorem d_X3_slipsStanding_16 : decode c_X3_slipsStanding 16 = .ok (.iload_n 2, 1) := by decide +kernel
theorem d_X3_slipsStanding_17 : decode c_X3_slipsStanding 17 = .ok (.baload, 1) := by decide +kernel
theorem d_X3_slipsStanding_18 : decode c_X3_slipsStanding 18 = .ok (.ifCond .ne 11, 3) := by decide +kernel
theorem d_X3_slipsStanding_21 : decode c_X3_slipsStanding 21 = .ok (.iload_n 1, 1) := by decide +kernel
theorem d_X3_slipsStanding_22 : decode c_X3_slipsStanding 22 = .ok (.aload_n 0, 1) := by decide +kernel
theorem d_X3_slipsStanding_23 : decode c_X3_slipsStanding 23 = .ok (.iload_n 2, 1) := by decide +kernel
theorem d_X3_slipsStanding_24 : decode c_X3_slipsStanding 24 = .ok (.invokevirtual 52, 3) := by decide +kernel
theorem d_X3_slipsStanding_27 : decode c_X3_slipsStanding 27 = .ok (.iadd, 1) := by decide +kernel
theorem d_X3_slipsStanding_28 : decode c_X3_slipsStanding 28 = .ok (.istore_n 1, 1) := by decide +kernel
theorem d_X3_slipsStanding_29 : decode c_X3_slipsStanding 29 = .ok (.iinc 2 1, 3) := by decide +kernel
theorem d_X3_slipsStanding_32 : decode c_X3_slipsStanding 32 = .ok (.goto (-28), 3) := by decide +kernel
theorem d_X3_slipsStanding_35 : decode c_X3_slipsStanding 35 = .ok (.iload_n 1, 1) := by decide +kernel
theorem d_X3_slipsStanding_36 : decode c_X3_slipsStanding 36 = .ok (.ireturn, 1) := by decide +kernel
theorem d_X3_howManyTakenBack_0 : decode c_X3_howManyTakenBack 0 = .ok (.iconst 0, 1) := by decide +kernel
theorem d_X3_howManyTakenBack_1 : decode c_X3_howManyTakenBack 1 = .ok (.istore_n 1, 1) := by decide +kernel
theorem d_X3_howManyTakenBack_2 : decode c_X3_howManyTakenBack 2 = .ok (.iconst 0, 1) := by decide +kernel
theorem d_X3_howManyTakenBack_3 : decode c_X3_howManyTakenBack 3 = .ok (.istore_n 2, 1) := by decide +kernel
theorem d_X3_howManyTakenBack_4 : decode c_X3_howManyTakenBack 4 = .ok (.iload_n 2, 1) := by decide +kernel
theorem d_X3_howManyTakenBack_5 : decode c_X3_howManyTakenBack 5 = .ok (.aload_n 0, 1) := by decide +kernel
theorem d_X3_howManyTakenBack_6 : decode c_X3_howManyTakenBack 6 = .ok (.getfield 23, 3) := by decide +kernel
theorem d_X3_howManyTakenBack_9 : decode c_X3_howManyTakenBack 9 = .ok (.if_icmp .ge 21, 3) := by decide +kernel
theorem d_X3_howManyTakenBack_12 : decode c_X3_howManyTakenBack 12 = .ok (.aload_n 0, 1) := by decide +kernel
theorem d_X3_howManyTakenBack_13 : decode c_X3_howManyTakenBack 13 = .ok (.getfield 19, 3) := by decide +kernel
theorem d_X3_howManyTakenBack_16 : decode c_X3_howManyTakenBack 16 = .ok (.iload_n 2, 1) := by decide +kernel
theorem d_X3_howManyTakenBack_17 : decode c_X3_howManyTakenBack 17 = .ok (.baload, 1) := by decide +kernel
theorem d_X3_howManyTakenBack_18 : decode c_X3_howManyTakenBack 18 = .ok (.ifCond .eq 6, 3) := by decide +kernel
theorem d_X3_howManyTakenBack_21 : decode c_X3_howManyTakenBack 21 = .ok (.iinc 1 1, 3) := by decide +kernel
theorem d_X3_howManyTakenBack_24 : decode c_X3_howManyTakenBack 24 = .ok (.iinc 2 1, 3) := by decide +kernel
theorem d_X3_howManyTakenBack_27 : decode c_X3_howManyTakenBack 27 = .ok (.goto (-23), 3) := by decide +kernel
theorem d_X3_howManyTakenBack_30 : decode c_X3_howManyTakenBack 30 = .ok (.iload_n 1, 1) := by decide +kernel
theorem d_X3_howManyTakenBack_31 : decode c_X3_howManyTakenBack 31 = .ok (.ireturn, 1) := by decide +kernel
theorem d_X3_totalOf_0 : decode c_X3_totalOf 0 = .ok (.lconst 0, 1) := by decide +kernel
theorem d_X3_totalOf_1 : decode c_X3_totalOf 1 = .ok (.lstore_n 2, 1) := by decide +kernel
theorem d_X3_totalOf_2 : decode c_X3_totalOf 2 = .ok (.iconst 0, 1) := by decide +kernel
theorem d_X3_totalOf_3 : decode c_X3_totalOf 3 = .ok (.istore 4, 2) := by decide +kernel
theorem d_X3_totalOf_5 : decode c_X3_totalOf 5 = .ok (.iload 4, 2) := by decide +kernel
theorem d_X3_totalOf_7 : decode c_X3_totalOf 7 = .ok (.aload_n 0, 1) := by decide +kernel
theorem d_X3_totalOf_8 : decode c_X3_totalOf 8 = .ok (.getfield 23, 3) := by decide +kernel
theorem d_X3_totalOf_11 : decode c_X3_totalOf 11 = .ok (.if_icmp .ge 29, 3) := by decide +kernel
theorem d_X3_totalOf_14 : decode c_X3_totalOf 14 = .ok (.aload_n 0, 1) := by decide +kernel
theorem d_X3_totalOf_15 : decode c_X3_totalOf 15 = .ok (.getfield 19, 3) := by decide +kernel
theorem d_X3_totalOf_18 : decode c_X3_totalOf 18 = .ok (.iload 4, 2) := by decide +kernel
theorem d_X3_totalOf_20 : decode c_X3_totalOf 20 = .ok (.baload, 1) := by decide +kernel
theorem d_X3_totalOf_21 : decode c_X3_totalOf 21 = .ok (.ifCond .ne 13, 3) := by decide +kernel
theorem d_X3_totalOf_24 : decode c_X3_totalOf 24 = .ok (.lload_n 2, 1) := by decide +kernel
theorem d_X3_totalOf_25 : decode c_X3_totalOf 25 = .ok (.aload_n 0, 1) := by decide +kernel
theorem d_X3_totalOf_26 : decode c_X3_totalOf 26 = .ok (.iload 4, 2) := by decide +kernel
theorem d_X3_totalOf_28 : decode c_X3_totalOf 28 = .ok (.iload_n 1, 1) := by decide +kernel
theorem d_X3_totalOf_29 : decode c_X3_totalOf 29 = .ok (.invokevirtual 56, 3) := by decide +kernel
theorem d_X3_totalOf_32 : decode c_X3_totalOf 32 = .ok (.ladd, 1) := by decide +kernel
theorem d_X3_totalOf_33 : decode c_X3_totalOf 33 = .ok (.lstore_n 2, 1) := by decide +kernel
theorem d_X3_totalOf_34 : decode c_X3_totalOf 34 = .ok (.iinc 4 1, 3) := by decide +kernel
theorem d_X3_totalOf_37 : decode c_X3_totalOf 37 = .ok (.goto (-32), 3) := by decide +kernel
theorem d_X3_totalOf_40 : decode c_X3_totalOf 40 = .ok (.lload_n 2, 1) := by decide +kernel
theorem d_X3_totalOf_41 : decode c_X3_totalOf 41 = .ok (.lreturn, 1) := by decide +kernel
theorem d_X3_totalOfRun_0 : decode c_X3_totalOfRun 0 = .ok (.lconst 0, 1) := by decide +kernel
theorem d_X3_totalOfRun_1 : decode c_X3_totalOfRun 1 = .ok (.lstore_n 3, 1) := by decide +kernel
theorem d_X3_totalOfRun_2 : decode c_X3_totalOfRun 2 = .ok (.iconst 0, 1) := by decide +kernel
theorem d_X3_totalOfRun_3 : decode c_X3_totalOfRun 3 = .ok (.istore 5, 2) := by decide +kernel
theorem d_X3_totalOfRun_5 : decode c_X3_totalOfRun 5 = .ok (.iload 5, 2) := by decide +kernel
theorem d_X3_totalOfRun_7 : decode c_X3_totalOfRun 7 = .ok (.bipush 6, 2) := by decide +kernel
theorem d_X3_totalOfRun_9 : decode c_X3_totalOfRun 9 = .ok (.if_icmp .ge 30, 3) := by decide +kernel
theorem d_X3_totalOfRun_12 : decode c_X3_totalOfRun 12 = .ok (.aload_n 0, 1) := by decide +kernel
theorem d_X3_totalOfRun_13 : decode c_X3_totalOfRun 13 = .ok (.iload_n 1, 1) := by decide +kernel
theorem d_X3_totalOfRun_14 : decode c_X3_totalOfRun 14 = .ok (.iload 5, 2) := by decide +kernel
theorem d_X3_totalOfRun_16 : decode c_X3_totalOfRun 16 = .ok (.invokevirtual 49, 3) := by decide +kernel
theorem d_X3_totalOfRun_19 : decode c_X3_totalOfRun 19 = .ok (.ifCond .eq 14, 3) := by decide +kernel
theorem d_X3_totalOfRun_22 : decode c_X3_totalOfRun 22 = .ok (.lload_n 3, 1) := by decide +kernel
theorem d_X3_totalOfRun_23 : decode c_X3_totalOfRun 23 = .ok (.aload_n 0, 1) := by decide +kernel
theorem d_X3_totalOfRun_24 : decode c_X3_totalOfRun 24 = .ok (.iload_n 1, 1) := by decide +kernel
theorem d_X3_totalOfRun_25 : decode c_X3_totalOfRun 25 = .ok (.iload 5, 2) := by decide +kernel
theorem d_X3_totalOfRun_27 : decode c_X3_totalOfRun 27 = .ok (.iload_n 2, 1) := by decide +kernel
theorem d_X3_totalOfRun_28 : decode c_X3_totalOfRun 28 = .ok (.invokevirtual 60, 3) := by decide +kernel
theorem d_X3_totalOfRun_31 : decode c_X3_totalOfRun 31 = .ok (.ladd, 1) := by decide +kernel
theorem d_X3_totalOfRun_32 : decode c_X3_totalOfRun 32 = .ok (.lstore_n 3, 1) := by decide +kernel
theorem d_X3_totalOfRun_33 : decode c_X3_totalOfRun 33 = .ok (.iinc 5 1, 3) := by decide +kernel
theorem d_X3_totalOfRun_36 : decode c_X3_totalOfRun 36 = .ok (.goto (-31), 3) := by decide +kernel
theorem d_X3_totalOfRun_39 : decode c_X3_totalOfRun 39 = .ok (.lload_n 3, 1) := by decide +kernel
theorem d_X3_totalOfRun_40 : decode c_X3_totalOfRun 40 = .ok (.lreturn, 1) := by decide +kernel
theorem d_X4_init_0 : decode c_X4_init 0 = .ok (.aload_n 0, 1) := by decide +kernel
theorem d_X4_init_1 : decode c_X4_init 1 = .ok (.invokespecial 3, 3) := by decide +kernel
theorem d_X4_init_4 : decode c_X4_init 4 = .ok (.aload_n 0, 1) := by decide +kernel
theorem d_X4_init_5 : decode c_X4_init 5 = .ok (.iconst 5, 1) := by decide +kernel
theorem d_X4_init_6 : decode c_X4_init 6 = .ok (.newarray .int, 2) := by decide +kernel
theorem d_X4_init_8 : decode c_X4_init 8 = .ok (.putfield 9, 3) := by decide +kernel
theorem d_X4_init_11 : decode c_X4_init 11 = .ok (.aload_n 0, 1) := by decide +kernel
theorem d_X4_init_12 : decode c_X4_init 12 = .ok (.iconst 5, 1) := by decide +kernel
theorem d_X4_init_13 : decode c_X4_init 13 = .ok (.newarray .int, 2) := by decide +kernel
theorem d_X4_init_15 : decode c_X4_init 15 = .ok (.putfield 15, 3) := by decide +kernel
theorem d_X4_init_18 : decode c_X4_init 18 = .ok (.return_, 1) := by decide +kernel
theorem d_X4_addStep_0 : decode c_X4_addStep 0 = .ok (.aload_n 0, 1) := by decide +kernel
theorem d_X4_addStep_1 : decode c_X4_addStep 1 = .ok (.getfield 18, 3) := by decide +kernel
theorem d_X4_addStep_4 : decode c_X4_addStep 4 = .ok (.ifCond .le 17, 3) := by decide +kernel
theorem d_X4_addStep_7 : decode c_X4_addStep 7 = .ok (.aload_n 0, 1) := by decide +kernel
theorem d_X4_addStep_8 : decode c_X4_addStep 8 = .ok (.getfield 9, 3) := by decide +kernel
theorem d_X4_addStep_11 : decode c_X4_addStep 11 = .ok (.aload_n 0, 1) := by decide +kernel
theorem d_X4_addStep_12 : decode c_X4_addStep 12 = .ok (.getfield 18, 3) := by decide +kernel
theorem d_X4_addStep_15 : decode c_X4_addStep 15 = .ok (.iconst 1, 1) := by decide +kernel
theorem d_X4_addStep_16 : decode c_X4_addStep 16 = .ok (.isub, 1) := by decide +kernel
theorem d_X4_addStep_17 : decode c_X4_addStep 17 = .ok (.iaload, 1) := by decide +kernel
theorem d_X4_addStep_18 : decode c_X4_addStep 18 = .ok (.goto 4, 3) := by decide +kernel
theorem d_X4_addStep_21 : decode c_X4_addStep 21 = .ok (.iconst 0, 1) := by decide +kernel
theorem d_X4_addStep_22 : decode c_X4_addStep 22 = .ok (.istore_n 3, 1) := by decide +kernel
theorem d_X4_addStep_23 : decode c_X4_addStep 23 = .ok (.iload_n 1, 1) := by decide +kernel
theorem d_X4_addStep_24 : decode c_X4_addStep 24 = .ok (.iload_n 3, 1) := by decide +kernel
theorem d_X4_addStep_25 : decode c_X4_addStep 25 = .ok (.if_icmp .le 14, 3) := by decide +kernel
theorem d_X4_addStep_28 : decode c_X4_addStep 28 = .ok (.iload_n 2, 1) := by decide +kernel
theorem d_X4_addStep_29 : decode c_X4_addStep 29 = .ok (.ifCond .lt 10, 3) := by decide +kernel
theorem d_X4_addStep_32 : decode c_X4_addStep 32 = .ok (.iload_n 2, 1) := by decide +kernel
theorem d_X4_addStep_33 : decode c_X4_addStep 33 = .ok (.sipush 1000, 3) := by decide +kernel
theorem d_X4_addStep_36 : decode c_X4_addStep 36 = .ok (.if_icmp .le 5, 3) := by decide +kernel
theorem d_X4_addStep_39 : decode c_X4_addStep 39 = .ok (.iconst (-1), 1) := by decide +kernel
theorem d_X4_addStep_40 : decode c_X4_addStep 40 = .ok (.ireturn, 1) := by decide +kernel
theorem d_X4_addStep_41 : decode c_X4_addStep 41 = .ok (.aload_n 0, 1) := by decide +kernel
theorem d_X4_addStep_42 : decode c_X4_addStep 42 = .ok (.getfield 18, 3) := by decide +kernel
theorem d_X4_addStep_45 : decode c_X4_addStep 45 = .ok (.iconst 5, 1) := by decide +kernel
theorem d_X4_addStep_46 : decode c_X4_addStep 46 = .ok (.if_icmp .ne 6, 3) := by decide +kernel
theorem d_X4_addStep_49 : decode c_X4_addStep 49 = .ok (.bipush (-2), 2) := by decide +kernel
theorem d_X4_addStep_51 : decode c_X4_addStep 51 = .ok (.ireturn, 1) := by decide +kernel
theorem d_X4_addStep_52 : decode c_X4_addStep 52 = .ok (.aload_n 0, 1) := by decide +kernel
theorem d_X4_addStep_53 : decode c_X4_addStep 53 = .ok (.getfield 9, 3) := by decide +kernel
theorem d_X4_addStep_56 : decode c_X4_addStep 56 = .ok (.aload_n 0, 1) := by decide +kernel
theorem d_X4_addStep_57 : decode c_X4_addStep 57 = .ok (.getfield 18, 3) := by decide +kernel
theorem d_X4_addStep_60 : decode c_X4_addStep 60 = .ok (.iload_n 1, 1) := by decide +kernel
theorem d_X4_addStep_61 : decode c_X4_addStep 61 = .ok (.iastore, 1) := by decide +kernel
theorem d_X4_addStep_62 : decode c_X4_addStep 62 = .ok (.aload_n 0, 1) := by decide +kernel
theorem d_X4_addStep_63 : decode c_X4_addStep 63 = .ok (.getfield 15, 3) := by decide +kernel
theorem d_X4_addStep_66 : decode c_X4_addStep 66 = .ok (.aload_n 0, 1) := by decide +kernel
theorem d_X4_addStep_67 : decode c_X4_addStep 67 = .ok (.getfield 18, 3) := by decide +kernel
theorem d_X4_addStep_70 : decode c_X4_addStep 70 = .ok (.iload_n 2, 1) := by decide +kernel
theorem d_X4_addStep_71 : decode c_X4_addStep 71 = .ok (.iastore, 1) := by decide +kernel
theorem d_X4_addStep_72 : decode c_X4_addStep 72 = .ok (.aload_n 0, 1) := by decide +kernel
theorem d_X4_addStep_73 : decode c_X4_addStep 73 = .ok (.dup, 1) := by decide +kernel
theorem d_X4_addStep_74 : decode c_X4_addStep 74 = .ok (.getfield 18, 3) := by decide +kernel
theorem d_X4_addStep_77 : decode c_X4_addStep 77 = .ok (.iconst 1, 1) := by decide +kernel
theorem d_X4_addStep_78 : decode c_X4_addStep 78 = .ok (.iadd, 1) := by decide +kernel
theorem d_X4_addStep_79 : decode c_X4_addStep 79 = .ok (.putfield 18, 3) := by decide +kernel
theorem d_X4_addStep_82 : decode c_X4_addStep 82 = .ok (.aload_n 0, 1) := by decide +kernel
theorem d_X4_addStep_83 : decode c_X4_addStep 83 = .ok (.getfield 18, 3) := by decide +kernel
theorem d_X4_addStep_86 : decode c_X4_addStep 86 = .ok (.ireturn, 1) := by decide +kernel
theorem d_X4_loseSteps_0 : decode c_X4_loseSteps 0 = .ok (.aload_n 0, 1) := by decide +kernel
theorem d_X4_loseSteps_1 : decode c_X4_loseSteps 1 = .ok (.getfield 18, 3) := by decide +kernel
theorem d_X4_loseSteps_4 : decode c_X4_loseSteps 4 = .ok (.istore_n 1, 1) := by decide +kernel
theorem d_X4_loseSteps_5 : decode c_X4_loseSteps 5 = .ok (.aload_n 0, 1) := by decide +kernel
theorem d_X4_loseSteps_6 : decode c_X4_loseSteps 6 = .ok (.iconst 0, 1) := by decide +kernel
theorem d_X4_loseSteps_7 : decode c_X4_loseSteps 7 = .ok (.putfield 18, 3) := by decide +kernel
theorem d_X4_loseSteps_10 : decode c_X4_loseSteps 10 = .ok (.iload_n 1, 1) := by decide +kernel
theorem d_X4_loseSteps_11 : decode c_X4_loseSteps 11 = .ok (.ireturn, 1) := by decide +kernel
theorem d_X4_scaled_0 : decode c_X4_scaled 0 = .ok (.lload_n 1, 1) := by decide +kernel
theorem d_X4_scaled_1 : decode c_X4_scaled 1 = .ok (.invokestatic 22, 3) := by decide +kernel
theorem d_X4_scaled_4 : decode c_X4_scaled 4 = .ok (.ifCond .ne 8, 3) := by decide +kernel
theorem d_X4_scaled_7 : decode c_X4_scaled 7 = .ok (.lload_n 1, 1) := by decide +kernel
theorem d_X4_scaled_8 : decode c_X4_scaled 8 = .ok (.invokestatic 28, 3) := by decide +kernel
theorem d_X4_scaled_11 : decode c_X4_scaled 11 = .ok (.lreturn, 1) := by decide +kernel
theorem d_X4_scaled_12 : decode c_X4_scaled 12 = .ok (.lconst 0, 1) := by decide +kernel
theorem d_X4_scaled_13 : decode c_X4_scaled 13 = .ok (.lstore_n 3, 1) := by decide +kernel
theorem d_X4_scaled_14 : decode c_X4_scaled 14 = .ok (.lconst 0, 1) := by decide +kernel
theorem d_X4_scaled_15 : decode c_X4_scaled 15 = .ok (.lstore 5, 2) := by decide +kernel
theorem d_X4_scaled_17 : decode c_X4_scaled 17 = .ok (.iconst 0, 1) := by decide +kernel
theorem d_X4_scaled_18 : decode c_X4_scaled 18 = .ok (.istore 7, 2) := by decide +kernel
theorem d_X4_scaled_20 : decode c_X4_scaled 20 = .ok (.iload 7, 2) := by decide +kernel
theorem d_X4_scaled_22 : decode c_X4_scaled 22 = .ok (.aload_n 0, 1) := by decide +kernel
theorem d_X4_scaled_23 : decode c_X4_scaled 23 = .ok (.getfield 18, 3) := by decide +kernel
theorem d_X4_scaled_26 : decode c_X4_scaled 26 = .ok (.if_icmp .ge 70, 3) := by decide +kernel
theorem d_X4_scaled_29 : decode c_X4_scaled 29 = .ok (.lload 5, 2) := by decide +kernel
theorem d_X4_scaled_31 : decode c_X4_scaled 31 = .ok (.lload_n 1, 1) := by decide +kernel
theorem d_X4_scaled_32 : decode c_X4_scaled 32 = .ok (.lcmp, 1) := by decide +kernel
theorem d_X4_scaled_33 : decode c_X4_scaled 33 = .ok (.ifCond .ge 63, 3) := by decide +kernel
theorem d_X4_scaled_36 : decode c_X4_scaled 36 = .ok (.lload_n 1, 1) := by decide +kernel
theorem d_X4_scaled_37 : decode c_X4_scaled 37 = .ok (.aload_n 0, 1) := by decide +kernel
theorem d_X4_scaled_38 : decode c_X4_scaled 38 = .ok (.getfield 9, 3) := by decide +kernel
theorem d_X4_scaled_41 : decode c_X4_scaled 41 = .ok (.iload 7, 2) := by decide +kernel
theorem d_X4_scaled_43 : decode c_X4_scaled 43 = .ok (.iaload, 1) := by decide +kernel
theorem d_X4_scaled_44 : decode c_X4_scaled 44 = .ok (.i2l, 1) := by decide +kernel
theorem d_X4_scaled_45 : decode c_X4_scaled 45 = .ok (.lcmp, 1) := by decide +kernel
theorem d_X4_scaled_46 : decode c_X4_scaled 46 = .ok (.ifCond .ge 7, 3) := by decide +kernel
theorem d_X4_scaled_49 : decode c_X4_scaled 49 = .ok (.lload_n 1, 1) := by decide +kernel
theorem d_X4_scaled_50 : decode c_X4_scaled 50 = .ok (.goto 11, 3) := by decide +kernel
theorem d_X4_scaled_53 : decode c_X4_scaled 53 = .ok (.aload_n 0, 1) := by decide +kernel
theorem d_X4_scaled_54 : decode c_X4_scaled 54 = .ok (.getfield 9, 3) := by decide +kernel
theorem d_X4_scaled_57 : decode c_X4_scaled 57 = .ok (.iload 7, 2) := by decide +kernel
theorem d_X4_scaled_59 : decode c_X4_scaled 59 = .ok (.iaload, 1) := by decide +kernel
theorem d_X4_scaled_60 : decode c_X4_scaled 60 = .ok (.i2l, 1) := by decide +kernel
theorem d_X4_scaled_61 : decode c_X4_scaled 61 = .ok (.lstore 8, 2) := by decide +kernel
theorem d_X4_scaled_63 : decode c_X4_scaled 63 = .ok (.lload_n 3, 1) := by decide +kernel
theorem d_X4_scaled_64 : decode c_X4_scaled 64 = .ok (.lload 8, 2) := by decide +kernel
theorem d_X4_scaled_66 : decode c_X4_scaled 66 = .ok (.lload 5, 2) := by decide +kernel
theorem d_X4_scaled_68 : decode c_X4_scaled 68 = .ok (.lsub, 1) := by decide +kernel
theorem d_X4_scaled_69 : decode c_X4_scaled 69 = .ok (.aload_n 0, 1) := by decide +kernel
theorem d_X4_scaled_70 : decode c_X4_scaled 70 = .ok (.getfield 15, 3) := by decide +kernel
theorem d_X4_scaled_73 : decode c_X4_scaled 73 = .ok (.iload 7, 2) := by decide +kernel
theorem d_X4_scaled_75 : decode c_X4_scaled 75 = .ok (.iaload, 1) := by decide +kernel
theorem d_X4_scaled_76 : decode c_X4_scaled 76 = .ok (.i2l, 1) := by decide +kernel
theorem d_X4_scaled_77 : decode c_X4_scaled 77 = .ok (.lmul, 1) := by decide +kernel
theorem d_X4_scaled_78 : decode c_X4_scaled 78 = .ok (.ladd, 1) := by decide +kernel
theorem d_X4_scaled_79 : decode c_X4_scaled 79 = .ok (.lstore_n 3, 1) := by decide +kernel
theorem d_X4_scaled_80 : decode c_X4_scaled 80 = .ok (.aload_n 0, 1) := by decide +kernel
theorem d_X4_scaled_81 : decode c_X4_scaled 81 = .ok (.getfield 9, 3) := by decide +kernel
theorem d_X4_scaled_84 : decode c_X4_scaled 84 = .ok (.iload 7, 2) := by decide +kernel
theorem d_X4_scaled_86 : decode c_X4_scaled 86 = .ok (.iaload, 1) := by decide +kernel
theorem d_X4_scaled_87 : decode c_X4_scaled 87 = .ok (.i2l, 1) := by decide +kernel
theorem d_X4_scaled_88 : decode c_X4_scaled 88 = .ok (.lstore 5, 2) := by decide +kernel
theorem d_X4_scaled_90 : decode c_X4_scaled 90 = .ok (.iinc 7 1, 3) := by decide +kernel
theorem d_X4_scaled_93 : decode c_X4_scaled 93 = .ok (.goto (-73), 3) := by decide +kernel
theorem d_X4_scaled_96 : decode c_X4_scaled 96 = .ok (.lload_n 3, 1) := by decide +kernel
theorem d_X4_scaled_97 : decode c_X4_scaled 97 = .ok (.ldc2_w 32, 3) := by decide +kernel
theorem d_X4_scaled_100 : decode c_X4_scaled 100 = .ok (.invokestatic 34, 3) := by decide +kernel
theorem d_X4_scaled_103 : decode c_X4_scaled 103 = .ok (.lreturn, 1) := by decide +kernel
theorem d_X5_isInt_0 : decode c_X5_isInt 0 = .ok (.lload_n 0, 1) := by decide +kernel
theorem d_X5_isInt_1 : decode c_X5_isInt 1 = .ok (.ldc2_w 11, 3) := by decide +kernel
theorem d_X5_isInt_4 : decode c_X5_isInt 4 = .ok (.lcmp, 1) := by decide +kernel
theorem d_X5_isInt_5 : decode c_X5_isInt 5 = .ok (.ifCond .lt 15, 3) := by decide +kernel
theorem d_X5_isInt_8 : decode c_X5_isInt 8 = .ok (.lload_n 0, 1) := by decide +kernel
theorem d_X5_isInt_9 : decode c_X5_isInt 9 = .ok (.ldc2_w 13, 3) := by decide +kernel
theorem d_X5_isInt_12 : decode c_X5_isInt 12 = .ok (.lcmp, 1) := by decide +kernel
theorem d_X5_isInt_13 : decode c_X5_isInt 13 = .ok (.ifCond .gt 7, 3) := by decide +kernel
theorem d_X5_isInt_16 : decode c_X5_isInt 16 = .ok (.iconst 1, 1) := by decide +kernel
theorem d_X5_isInt_17 : decode c_X5_isInt 17 = .ok (.goto 4, 3) := by decide +kernel
theorem d_X5_isInt_20 : decode c_X5_isInt 20 = .ok (.iconst 0, 1) := by decide +kernel
theorem d_X5_isInt_21 : decode c_X5_isInt 21 = .ok (.ireturn, 1) := by decide +kernel
theorem d_X5_faultOf_0 : decode c_X5_faultOf 0 = .ok (.lload_n 0, 1) := by decide +kernel
theorem d_X5_faultOf_1 : decode c_X5_faultOf 1 = .ok (.ldc2_w 15, 3) := by decide +kernel
theorem d_X5_faultOf_4 : decode c_X5_faultOf 4 = .ok (.lcmp, 1) := by decide +kernel
theorem d_X5_faultOf_5 : decode c_X5_faultOf 5 = .ok (.ifCond .ne 9, 3) := by decide +kernel
theorem d_X5_faultOf_8 : decode c_X5_faultOf 8 = .ok (.ldc2_w 17, 3) := by decide +kernel
theorem d_X5_faultOf_11 : decode c_X5_faultOf 11 = .ok (.goto 4, 3) := by decide +kernel
theorem d_X5_faultOf_14 : decode c_X5_faultOf 14 = .ok (.lload_n 0, 1) := by decide +kernel
theorem d_X5_faultOf_15 : decode c_X5_faultOf 15 = .ok (.lreturn, 1) := by decide +kernel
theorem d_X5_truthOf_0 : decode c_X5_truthOf 0 = .ok (.lload_n 0, 1) := by decide +kernel
theorem d_X5_truthOf_1 : decode c_X5_truthOf 1 = .ok (.invokestatic 19, 3) := by decide +kernel
theorem d_X5_truthOf_4 : decode c_X5_truthOf 4 = .ok (.ifCond .ne 8, 3) := by decide +kernel
theorem d_X5_truthOf_7 : decode c_X5_truthOf 7 = .ok (.lload_n 0, 1) := by decide +kernel
theorem d_X5_truthOf_8 : decode c_X5_truthOf 8 = .ok (.invokestatic 25, 3) := by decide +kernel
theorem d_X5_truthOf_11 : decode c_X5_truthOf 11 = .ok (.lreturn, 1) := by decide +kernel
theorem d_X5_truthOf_12 : decode c_X5_truthOf 12 = .ok (.lload_n 0, 1) := by decide +kernel
theorem d_X5_truthOf_13 : decode c_X5_truthOf 13 = .ok (.lconst 0, 1) := by decide +kernel
theorem d_X5_truthOf_14 : decode c_X5_truthOf 14 = .ok (.lcmp, 1) := by decide +kernel
theorem d_X5_truthOf_15 : decode c_X5_truthOf 15 = .ok (.ifCond .eq 7, 3) := by decide +kernel
theorem d_X5_truthOf_18 : decode c_X5_truthOf 18 = .ok (.lconst 1, 1) := by decide +kernel
theorem d_X5_truthOf_19 : decode c_X5_truthOf 19 = .ok (.goto 4, 3) := by decide +kernel
theorem d_X5_truthOf_22 : decode c_X5_truthOf 22 = .ok (.lconst 0, 1) := by decide +kernel
theorem d_X5_truthOf_23 : decode c_X5_truthOf 23 = .ok (.lreturn, 1) := by decide +kernel
theorem d_X5_not_0 : decode c_X5_not 0 = .ok (.lload_n 0, 1) := by decide +kernel
theorem d_X5_not_1 : decode c_X5_not 1 = .ok (.invokestatic 19, 3) := by decide +kernel
theorem d_X5_not_4 : decode c_X5_not 4 = .ok (.ifCond .ne 8, 3) := by decide +kernel
theorem d_X5_not_7 : decode c_X5_not 7 = .ok (.lload_n 0, 1) := by decide +kernel
theorem d_X5_not_8 : decode c_X5_not 8 = .ok (.invokestatic 25, 3) := by decide +kernel
theorem d_X5_not_11 : decode c_X5_not 11 = .ok (.lreturn, 1) := by decide +kernel
theorem d_X5_not_12 : decode c_X5_not 12 = .ok (.lload_n 0, 1) := by decide +kernel
theorem d_X5_not_13 : decode c_X5_not 13 = .ok (.lconst 0, 1) := by decide +kernel
theorem d_X5_not_14 : decode c_X5_not 14 = .ok (.lcmp, 1) := by decide +kernel
theorem d_X5_not_15 : decode c_X5_not 15 = .ok (.ifCond .ne 7, 3) := by decide +kernel
theorem d_X5_not_18 : decode c_X5_not 18 = .ok (.lconst 1, 1) := by decide +kernel
theorem d_X5_not_19 : decode c_X5_not 19 = .ok (.goto 4, 3) := by decide +kernel
theorem d_X5_not_22 : decode c_X5_not 22 = .ok (.lconst 0, 1) := by decide +kernel
theorem d_X5_not_23 : decode c_X5_not 23 = .ok (.lreturn, 1) := by decide +kernel
theorem d_X5_both_0 : decode c_X5_both 0 = .ok (.lload_n 0, 1) := by decide +kernel
theorem d_X5_both_1 : decode c_X5_both 1 = .ok (.invokestatic 19, 3) := by decide +kernel
theorem d_X5_both_4 : decode c_X5_both 4 = .ok (.ifCond .ne 8, 3) := by decide +kernel
theorem d_X5_both_7 : decode c_X5_both 7 = .ok (.lload_n 0, 1) := by decide +kernel
theorem d_X5_both_8 : decode c_X5_both 8 = .ok (.invokestatic 25, 3) := by decide +kernel
theorem d_X5_both_11 : decode c_X5_both 11 = .ok (.lreturn, 1) := by decide +kernel
theorem d_X5_both_12 : decode c_X5_both 12 = .ok (.lload_n 0, 1) := by decide +kernel
theorem d_X5_both_13 : decode c_X5_both 13 = .ok (.lconst 0, 1) := by decide +kernel
theorem d_X5_both_14 : decode c_X5_both 14 = .ok (.lcmp, 1) := by decide +kernel
theorem d_X5_both_15 : decode c_X5_both 15 = .ok (.ifCond .ne 7, 3) := by decide +kernel
theorem d_X5_both_18 : decode c_X5_both 18 = .ok (.lconst 0, 1) := by decide +kernel
theorem d_X5_both_19 : decode c_X5_both 19 = .ok (.goto 7, 3) := by decide +kernel
theorem d_X5_both_22 : decode c_X5_both 22 = .ok (.lload_n 2, 1) := by decide +kernel
theorem d_X5_both_23 : decode c_X5_both 23 = .ok (.invokestatic 29, 3) := by decide +kernel
theorem d_X5_both_26 : decode c_X5_both 26 = .ok (.lreturn, 1) := by decide +kernel
theorem d_X5_any_0 : decode c_X5_any 0 = .ok (.lload_n 0, 1) := by decide +kernel
theorem d_X5_any_1 : decode c_X5_any 1 = .ok (.invokestatic 19, 3) := by decide +kernel
theorem d_X5_any_4 : decode c_X5_any 4 = .ok (.ifCond .ne 8, 3) := by decide +kernel
theorem d_X5_any_7 : decode c_X5_any 7 = .ok (.lload_n 0, 1) := by decide +kernel
theorem d_X5_any_8 : decode c_X5_any 8 = .ok (.invokestatic 25, 3) := by decide +kernel
theorem d_X5_any_11 : decode c_X5_any 11 = .ok (.lreturn, 1) := by decide +kernel
theorem d_X5_any_12 : decode c_X5_any 12 = .ok (.lload_n 0, 1) := by decide +kernel
theorem d_X5_any_13 : decode c_X5_any 13 = .ok (.lconst 0, 1) := by decide +kernel
theorem d_X5_any_14 : decode c_X5_any 14 = .ok (.lcmp, 1) := by decide +kernel
theorem d_X5_any_15 : decode c_X5_any 15 = .ok (.ifCond .eq 7, 3) := by decide +kernel
theorem d_X5_any_18 : decode c_X5_any 18 = .ok (.lconst 1, 1) := by decide +kernel
theorem d_X5_any_19 : decode c_X5_any 19 = .ok (.goto 7, 3) := by decide +kernel
theorem d_X5_any_22 : decode c_X5_any 22 = .ok (.lload_n 2, 1) := by decide +kernel
theorem d_X5_any_23 : decode c_X5_any 23 = .ok (.invokestatic 29, 3) := by decide +kernel
theorem d_X5_any_26 : decode c_X5_any 26 = .ok (.lreturn, 1) := by decide +kernel
theorem d_X5_choice_0 : decode c_X5_choice 0 = .ok (.lload_n 0, 1) := by decide +kernel
theorem d_X5_choice_1 : decode c_X5_choice 1 = .ok (.invokestatic 19, 3) := by decide +kernel
theorem d_X5_choice_4 : decode c_X5_choice 4 = .ok (.ifCond .ne 8, 3) := by decide +kernel
theorem d_X5_choice_7 : decode c_X5_choice 7 = .ok (.lload_n 0, 1) := by decide +kernel
theorem d_X5_choice_8 : decode c_X5_choice 8 = .ok (.invokestatic 25, 3) := by decide +kernel
theorem d_X5_choice_11 : decode c_X5_choice 11 = .ok (.lreturn, 1) := by decide +kernel
theorem d_X5_choice_12 : decode c_X5_choice 12 = .ok (.lload_n 0, 1) := by decide +kernel
theorem d_X5_choice_13 : decode c_X5_choice 13 = .ok (.lconst 0, 1) := by decide +kernel
theorem d_X5_choice_14 : decode c_X5_choice 14 = .ok (.lcmp, 1) := by decide +kernel
theorem d_X5_choice_15 : decode c_X5_choice 15 = .ok (.ifCond .eq 7, 3) := by decide +kernel
theorem d_X5_choice_18 : decode c_X5_choice 18 = .ok (.lload_n 2, 1) := by decide +kernel
theorem d_X5_choice_19 : decode c_X5_choice 19 = .ok (.goto 5, 3) := by decide +kernel
theorem d_X5_choice_22 : decode c_X5_choice 22 = .ok (.lload 4, 2) := by decide +kernel
theorem d_X5_choice_24 : decode c_X5_choice 24 = .ok (.lreturn, 1) := by decide +kernel
theorem d_X5_also_0 : decode c_X5_also 0 = .ok (.lload_n 0, 1) := by decide +kernel
theorem d_X5_also_1 : decode c_X5_also 1 = .ok (.ldc2_w 15, 3) := by decide +kernel
theorem d_X5_also_4 : decode c_X5_also 4 = .ok (.lcmp, 1) := by decide +kernel
theorem d_X5_also_5 : decode c_X5_also 5 = .ok (.ifCond .eq 12, 3) := by decide +kernel
theorem d_X5_also_8 : decode c_X5_also 8 = .ok (.lload_n 0, 1) := by decide +kernel
theorem d_X5_also_9 : decode c_X5_also 9 = .ok (.invokestatic 19, 3) := by decide +kernel
theorem d_X5_also_12 : decode c_X5_also 12 = .ok (.ifCond .ne 5, 3) := by decide +kernel
theorem d_X5_also_15 : decode c_X5_also 15 = .ok (.lload_n 0, 1) := by decide +kernel
theorem d_X5_also_16 : decode c_X5_also 16 = .ok (.lreturn, 1) := by decide +kernel
theorem d_X5_also_17 : decode c_X5_also 17 = .ok (.lload_n 2, 1) := by decide +kernel
theorem d_X5_also_18 : decode c_X5_also 18 = .ok (.ldc2_w 15, 3) := by decide +kernel
theorem d_X5_also_21 : decode c_X5_also 21 = .ok (.lcmp, 1) := by decide +kernel
theorem d_X5_also_22 : decode c_X5_also 22 = .ok (.ifCond .eq 12, 3) := by decide +kernel
theorem d_X5_also_25 : decode c_X5_also 25 = .ok (.lload_n 2, 1) := by decide +kernel
theorem d_X5_also_26 : decode c_X5_also 26 = .ok (.invokestatic 19, 3) := by decide +kernel
theorem d_X5_also_29 : decode c_X5_also 29 = .ok (.ifCond .ne 5, 3) := by decide +kernel
theorem d_X5_also_32 : decode c_X5_also 32 = .ok (.lload_n 2, 1) := by decide +kernel
theorem d_X5_also_33 : decode c_X5_also 33 = .ok (.lreturn, 1) := by decide +kernel
theorem d_X5_also_34 : decode c_X5_also 34 = .ok (.lload_n 0, 1) := by decide +kernel
theorem d_X5_also_35 : decode c_X5_also 35 = .ok (.ldc2_w 15, 3) := by decide +kernel
theorem d_X5_also_38 : decode c_X5_also 38 = .ok (.lcmp, 1) := by decide +kernel
theorem d_X5_also_39 : decode c_X5_also 39 = .ok (.ifCond .eq 15, 3) := by decide +kernel
theorem d_X5_also_42 : decode c_X5_also 42 = .ok (.lload_n 2, 1) := by decide +kernel
theorem d_X5_also_43 : decode c_X5_also 43 = .ok (.ldc2_w 15, 3) := by decide +kernel
theorem d_X5_also_46 : decode c_X5_also 46 = .ok (.lcmp, 1) := by decide +kernel
theorem d_X5_also_47 : decode c_X5_also 47 = .ok (.ifCond .eq 7, 3) := by decide +kernel
theorem d_X5_also_50 : decode c_X5_also 50 = .ok (.ldc2_w 32, 3) := by decide +kernel
theorem d_X5_also_53 : decode c_X5_also 53 = .ok (.lreturn, 1) := by decide +kernel
theorem d_X5_also_54 : decode c_X5_also 54 = .ok (.lload_n 0, 1) := by decide +kernel
theorem d_X5_also_55 : decode c_X5_also 55 = .ok (.ldc2_w 15, 3) := by decide +kernel
theorem d_X5_also_58 : decode c_X5_also 58 = .ok (.lcmp, 1) := by decide +kernel
theorem d_X5_also_59 : decode c_X5_also 59 = .ok (.ifCond .eq 7, 3) := by decide +kernel
theorem d_X5_also_62 : decode c_X5_also 62 = .ok (.lload_n 0, 1) := by decide +kernel
theorem d_X5_also_63 : decode c_X5_also 63 = .ok (.goto 4, 3) := by decide +kernel
theorem d_X5_also_66 : decode c_X5_also 66 = .ok (.lload_n 2, 1) := by decide +kernel
theorem d_X5_also_67 : decode c_X5_also 67 = .ok (.lreturn, 1) := by decide +kernel
theorem d_X5_byDefault_0 : decode c_X5_byDefault 0 = .ok (.lload_n 0, 1) := by decide +kernel
theorem d_X5_byDefault_1 : decode c_X5_byDefault 1 = .ok (.ldc2_w 15, 3) := by decide +kernel
theorem d_X5_byDefault_4 : decode c_X5_byDefault 4 = .ok (.lcmp, 1) := by decide +kernel
theorem d_X5_byDefault_5 : decode c_X5_byDefault 5 = .ok (.ifCond .eq 5, 3) := by decide +kernel
theorem d_X5_byDefault_8 : decode c_X5_byDefault 8 = .ok (.lload_n 0, 1) := by decide +kernel
theorem d_X5_byDefault_9 : decode c_X5_byDefault 9 = .ok (.lreturn, 1) := by decide +kernel
theorem d_X5_byDefault_10 : decode c_X5_byDefault 10 = .ok (.lload_n 2, 1) := by decide +kernel
theorem d_X5_byDefault_11 : decode c_X5_byDefault 11 = .ok (.invokestatic 19, 3) := by decide +kernel
theorem d_X5_byDefault_14 : decode c_X5_byDefault 14 = .ok (.ifCond .ne 8, 3) := by decide +kernel
theorem d_X5_byDefault_17 : decode c_X5_byDefault 17 = .ok (.lload_n 2, 1) := by decide +kernel
theorem d_X5_byDefault_18 : decode c_X5_byDefault 18 = .ok (.invokestatic 25, 3) := by decide +kernel
theorem d_X5_byDefault_21 : decode c_X5_byDefault 21 = .ok (.lreturn, 1) := by decide +kernel
theorem d_X5_byDefault_22 : decode c_X5_byDefault 22 = .ok (.lload_n 2, 1) := by decide +kernel
theorem d_X5_byDefault_23 : decode c_X5_byDefault 23 = .ok (.lconst 0, 1) := by decide +kernel
theorem d_X5_byDefault_24 : decode c_X5_byDefault 24 = .ok (.lcmp, 1) := by decide +kernel
theorem d_X5_byDefault_25 : decode c_X5_byDefault 25 = .ok (.ifCond .ne 9, 3) := by decide +kernel
theorem d_X5_byDefault_28 : decode c_X5_byDefault 28 = .ok (.ldc2_w 15, 3) := by decide +kernel
theorem d_X5_byDefault_31 : decode c_X5_byDefault 31 = .ok (.goto 5, 3) := by decide +kernel
theorem d_X5_byDefault_34 : decode c_X5_byDefault 34 = .ok (.lload 4, 2) := by decide +kernel
theorem d_X5_byDefault_36 : decode c_X5_byDefault 36 = .ok (.lreturn, 1) := by decide +kernel
theorem d_X5_ofTwo_0 : decode c_X5_ofTwo 0 = .ok (.lload_n 1, 1) := by decide +kernel
theorem d_X5_ofTwo_1 : decode c_X5_ofTwo 1 = .ok (.invokestatic 19, 3) := by decide +kernel
end
section
theorem d_X5_ofTwo_4 : decode c_X5_ofTwo 4 = .ok (.ifCond .ne 8, 3) := by decide +kernel
theorem d_X5_ofTwo_7 : decode c_X5_ofTwo 7 = .ok (.lload_n 1, 1) := by decide +kernel
theorem d_X5_ofTwo_8 : decode c_X5_ofTwo 8 = .ok (.invokestatic 25, 3) := by decide +kernel
theorem d_X5_ofTwo_11 : decode c_X5_ofTwo 11 = .ok (.lreturn, 1) := by decide +kernel
theorem d_X5_ofTwo_12 : decode c_X5_ofTwo 12 = .ok (.lload_n 3, 1) := by decide +kernel
theorem d_X5_ofTwo_13 : decode c_X5_ofTwo 13 = .ok (.invokestatic 19, 3) := by decide +kernel
theorem d_X5_ofTwo_16 : decode c_X5_ofTwo 16 = .ok (.ifCond .ne 8, 3) := by decide +kernel
theorem d_X5_ofTwo_19 : decode c_X5_ofTwo 19 = .ok (.lload_n 3, 1) := by decide +kernel
theorem d_X5_ofTwo_20 : decode c_X5_ofTwo 20 = .ok (.invokestatic 25, 3) := by decide +kernel
theorem d_X5_ofTwo_23 : decode c_X5_ofTwo 23 = .ok (.lreturn, 1) := by decide +kernel
theorem d_X5_ofTwo_24 : decode c_X5_ofTwo 24 = .ok (.iload_n 0, 1) := by decide +kernel
theorem d_X5_ofTwo_25 : decode c_X5_ofTwo 25 = .ok (.lload_n 1, 1) := by decide +kernel
theorem d_X5_ofTwo_26 : decode c_X5_ofTwo 26 = .ok (.lload_n 3, 1) := by decide +kernel
theorem d_X5_ofTwo_27 : decode c_X5_ofTwo 27 = .ok (.invokestatic 34, 3) := by decide +kernel
theorem d_X5_ofTwo_30 : decode c_X5_ofTwo 30 = .ok (.lstore 5, 2) := by decide +kernel
theorem d_X5_ofTwo_32 : decode c_X5_ofTwo 32 = .ok (.lload 5, 2) := by decide +kernel
theorem d_X5_ofTwo_34 : decode c_X5_ofTwo 34 = .ok (.invokestatic 19, 3) := by decide +kernel
theorem d_X5_ofTwo_37 : decode c_X5_ofTwo 37 = .ok (.ifCond .eq 8, 3) := by decide +kernel
theorem d_X5_ofTwo_40 : decode c_X5_ofTwo 40 = .ok (.lload 5, 2) := by decide +kernel
theorem d_X5_ofTwo_42 : decode c_X5_ofTwo 42 = .ok (.goto 6, 3) := by decide +kernel
theorem d_X5_ofTwo_45 : decode c_X5_ofTwo 45 = .ok (.ldc2_w 38, 3) := by decide +kernel
theorem d_X5_ofTwo_48 : decode c_X5_ofTwo 48 = .ok (.lreturn, 1) := by decide +kernel
theorem d_X5_ofInts_0 : decode c_X5_ofInts 0 = .ok (.iload_n 0, 1) := by decide +kernel
theorem d_X5_ofInts_1 : decode c_X5_ofInts 1 = .ok (.tableswitch 87 4 9 #[39, 43, 47, 51, 63, 75], 39) := by decide +kernel
theorem d_X5_ofInts_40 : decode c_X5_ofInts 40 = .ok (.lload_n 1, 1) := by decide +kernel
theorem d_X5_ofInts_41 : decode c_X5_ofInts 41 = .ok (.lload_n 3, 1) := by decide +kernel
theorem d_X5_ofInts_42 : decode c_X5_ofInts 42 = .ok (.ladd, 1) := by decide +kernel
theorem d_X5_ofInts_43 : decode c_X5_ofInts 43 = .ok (.lreturn, 1) := by decide +kernel
theorem d_X5_ofInts_44 : decode c_X5_ofInts 44 = .ok (.lload_n 1, 1) := by decide +kernel
theorem d_X5_ofInts_45 : decode c_X5_ofInts 45 = .ok (.lload_n 3, 1) := by decide +kernel
theorem d_X5_ofInts_46 : decode c_X5_ofInts 46 = .ok (.lsub, 1) := by decide +kernel
theorem d_X5_ofInts_47 : decode c_X5_ofInts 47 = .ok (.lreturn, 1) := by decide +kernel
theorem d_X5_ofInts_48 : decode c_X5_ofInts 48 = .ok (.lload_n 1, 1) := by decide +kernel
theorem d_X5_ofInts_49 : decode c_X5_ofInts 49 = .ok (.lload_n 3, 1) := by decide +kernel
theorem d_X5_ofInts_50 : decode c_X5_ofInts 50 = .ok (.lmul, 1) := by decide +kernel
theorem d_X5_ofInts_51 : decode c_X5_ofInts 51 = .ok (.lreturn, 1) := by decide +kernel
theorem d_X5_ofInts_52 : decode c_X5_ofInts 52 = .ok (.lload_n 1, 1) := by decide +kernel
theorem d_X5_ofInts_53 : decode c_X5_ofInts 53 = .ok (.lload_n 3, 1) := by decide +kernel
theorem d_X5_ofInts_54 : decode c_X5_ofInts 54 = .ok (.lcmp, 1) := by decide +kernel
theorem d_X5_ofInts_55 : decode c_X5_ofInts 55 = .ok (.ifCond .ge 7, 3) := by decide +kernel
theorem d_X5_ofInts_58 : decode c_X5_ofInts 58 = .ok (.lconst 1, 1) := by decide +kernel
theorem d_X5_ofInts_59 : decode c_X5_ofInts 59 = .ok (.goto 4, 3) := by decide +kernel
theorem d_X5_ofInts_62 : decode c_X5_ofInts 62 = .ok (.lconst 0, 1) := by decide +kernel
theorem d_X5_ofInts_63 : decode c_X5_ofInts 63 = .ok (.lreturn, 1) := by decide +kernel
theorem d_X5_ofInts_64 : decode c_X5_ofInts 64 = .ok (.lload_n 1, 1) := by decide +kernel
theorem d_X5_ofInts_65 : decode c_X5_ofInts 65 = .ok (.lload_n 3, 1) := by decide +kernel
theorem d_X5_ofInts_66 : decode c_X5_ofInts 66 = .ok (.lcmp, 1) := by decide +kernel
theorem d_X5_ofInts_67 : decode c_X5_ofInts 67 = .ok (.ifCond .ne 7, 3) := by decide +kernel
theorem d_X5_ofInts_70 : decode c_X5_ofInts 70 = .ok (.lconst 1, 1) := by decide +kernel
theorem d_X5_ofInts_71 : decode c_X5_ofInts 71 = .ok (.goto 4, 3) := by decide +kernel
theorem d_X5_ofInts_74 : decode c_X5_ofInts 74 = .ok (.lconst 0, 1) := by decide +kernel
theorem d_X5_ofInts_75 : decode c_X5_ofInts 75 = .ok (.lreturn, 1) := by decide +kernel
theorem d_X5_ofInts_76 : decode c_X5_ofInts 76 = .ok (.lload_n 1, 1) := by decide +kernel
theorem d_X5_ofInts_77 : decode c_X5_ofInts 77 = .ok (.lload_n 3, 1) := by decide +kernel
theorem d_X5_ofInts_78 : decode c_X5_ofInts 78 = .ok (.lcmp, 1) := by decide +kernel
theorem d_X5_ofInts_79 : decode c_X5_ofInts 79 = .ok (.ifCond .ge 7, 3) := by decide +kernel
theorem d_X5_ofInts_82 : decode c_X5_ofInts 82 = .ok (.lload_n 1, 1) := by decide +kernel
theorem d_X5_ofInts_83 : decode c_X5_ofInts 83 = .ok (.goto 4, 3) := by decide +kernel
theorem d_X5_ofInts_86 : decode c_X5_ofInts 86 = .ok (.lload_n 3, 1) := by decide +kernel
theorem d_X5_ofInts_87 : decode c_X5_ofInts 87 = .ok (.lreturn, 1) := by decide +kernel
theorem d_X5_ofInts_88 : decode c_X5_ofInts 88 = .ok (.lload_n 1, 1) := by decide +kernel
theorem d_X5_ofInts_89 : decode c_X5_ofInts 89 = .ok (.lload_n 3, 1) := by decide +kernel
theorem d_X5_ofInts_90 : decode c_X5_ofInts 90 = .ok (.lcmp, 1) := by decide +kernel
theorem d_X5_ofInts_91 : decode c_X5_ofInts 91 = .ok (.ifCond .le 7, 3) := by decide +kernel
theorem d_X5_ofInts_94 : decode c_X5_ofInts 94 = .ok (.lload_n 1, 1) := by decide +kernel
theorem d_X5_ofInts_95 : decode c_X5_ofInts 95 = .ok (.goto 4, 3) := by decide +kernel
theorem d_X5_ofInts_98 : decode c_X5_ofInts 98 = .ok (.lload_n 3, 1) := by decide +kernel
theorem d_X5_ofInts_99 : decode c_X5_ofInts 99 = .ok (.lreturn, 1) := by decide +kernel
theorem d_X5_share_0 : decode c_X5_share 0 = .ok (.lload_n 0, 1) := by decide +kernel
theorem d_X5_share_1 : decode c_X5_share 1 = .ok (.invokestatic 19, 3) := by decide +kernel
theorem d_X5_share_4 : decode c_X5_share 4 = .ok (.ifCond .ne 8, 3) := by decide +kernel
theorem d_X5_share_7 : decode c_X5_share 7 = .ok (.lload_n 0, 1) := by decide +kernel
theorem d_X5_share_8 : decode c_X5_share 8 = .ok (.invokestatic 25, 3) := by decide +kernel
theorem d_X5_share_11 : decode c_X5_share 11 = .ok (.lreturn, 1) := by decide +kernel
theorem d_X5_share_12 : decode c_X5_share 12 = .ok (.lload_n 2, 1) := by decide +kernel
theorem d_X5_share_13 : decode c_X5_share 13 = .ok (.invokestatic 19, 3) := by decide +kernel
theorem d_X5_share_16 : decode c_X5_share 16 = .ok (.ifCond .ne 8, 3) := by decide +kernel
theorem d_X5_share_19 : decode c_X5_share 19 = .ok (.lload_n 2, 1) := by decide +kernel
theorem d_X5_share_20 : decode c_X5_share 20 = .ok (.invokestatic 25, 3) := by decide +kernel
theorem d_X5_share_23 : decode c_X5_share 23 = .ok (.lreturn, 1) := by decide +kernel
theorem d_X5_share_24 : decode c_X5_share 24 = .ok (.lload 4, 2) := by decide +kernel
theorem d_X5_share_26 : decode c_X5_share 26 = .ok (.invokestatic 19, 3) := by decide +kernel
theorem d_X5_share_29 : decode c_X5_share 29 = .ok (.ifCond .ne 9, 3) := by decide +kernel
theorem d_X5_share_32 : decode c_X5_share 32 = .ok (.lload 4, 2) := by decide +kernel
theorem d_X5_share_34 : decode c_X5_share 34 = .ok (.invokestatic 25, 3) := by decide +kernel
theorem d_X5_share_37 : decode c_X5_share 37 = .ok (.lreturn, 1) := by decide +kernel
theorem d_X5_share_38 : decode c_X5_share 38 = .ok (.lload 4, 2) := by decide +kernel
theorem d_X5_share_40 : decode c_X5_share 40 = .ok (.lconst 0, 1) := by decide +kernel
theorem d_X5_share_41 : decode c_X5_share 41 = .ok (.lcmp, 1) := by decide +kernel
theorem d_X5_share_42 : decode c_X5_share 42 = .ok (.ifCond .ne 7, 3) := by decide +kernel
theorem d_X5_share_45 : decode c_X5_share 45 = .ok (.ldc2_w 40, 3) := by decide +kernel
theorem d_X5_share_48 : decode c_X5_share 48 = .ok (.lreturn, 1) := by decide +kernel
theorem d_X5_share_49 : decode c_X5_share 49 = .ok (.lload_n 0, 1) := by decide +kernel
theorem d_X5_share_50 : decode c_X5_share 50 = .ok (.lload_n 2, 1) := by decide +kernel
theorem d_X5_share_51 : decode c_X5_share 51 = .ok (.lmul, 1) := by decide +kernel
theorem d_X5_share_52 : decode c_X5_share 52 = .ok (.lload 4, 2) := by decide +kernel
theorem d_X5_share_54 : decode c_X5_share 54 = .ok (.invokestatic 42, 3) := by decide +kernel
theorem d_X5_share_57 : decode c_X5_share 57 = .ok (.lstore 6, 2) := by decide +kernel
theorem d_X5_share_59 : decode c_X5_share 59 = .ok (.lload 6, 2) := by decide +kernel
theorem d_X5_share_61 : decode c_X5_share 61 = .ok (.invokestatic 19, 3) := by decide +kernel
theorem d_X5_share_64 : decode c_X5_share 64 = .ok (.ifCond .eq 8, 3) := by decide +kernel
theorem d_X5_share_67 : decode c_X5_share 67 = .ok (.lload 6, 2) := by decide +kernel
theorem d_X5_share_69 : decode c_X5_share 69 = .ok (.goto 6, 3) := by decide +kernel
theorem d_X5_share_72 : decode c_X5_share 72 = .ok (.ldc2_w 38, 3) := by decide +kernel
theorem d_X5_share_75 : decode c_X5_share 75 = .ok (.lreturn, 1) := by decide +kernel
theorem d_X5_rounded_0 : decode c_X5_rounded 0 = .ok (.lload_n 2, 1) := by decide +kernel
theorem d_X5_rounded_1 : decode c_X5_rounded 1 = .ok (.lconst 0, 1) := by decide +kernel
theorem d_X5_rounded_2 : decode c_X5_rounded 2 = .ok (.lcmp, 1) := by decide +kernel
theorem d_X5_rounded_3 : decode c_X5_rounded 3 = .ok (.ifCond .ne 5, 3) := by decide +kernel
theorem d_X5_rounded_6 : decode c_X5_rounded 6 = .ok (.lconst 0, 1) := by decide +kernel
theorem d_X5_rounded_7 : decode c_X5_rounded 7 = .ok (.lreturn, 1) := by decide +kernel
theorem d_X5_rounded_8 : decode c_X5_rounded 8 = .ok (.lload_n 0, 1) := by decide +kernel
theorem d_X5_rounded_9 : decode c_X5_rounded 9 = .ok (.lconst 0, 1) := by decide +kernel
theorem d_X5_rounded_10 : decode c_X5_rounded 10 = .ok (.lcmp, 1) := by decide +kernel
theorem d_X5_rounded_11 : decode c_X5_rounded 11 = .ok (.ifCond .ge 8, 3) := by decide +kernel
theorem d_X5_rounded_14 : decode c_X5_rounded 14 = .ok (.lload_n 0, 1) := by decide +kernel
theorem d_X5_rounded_15 : decode c_X5_rounded 15 = .ok (.lneg, 1) := by decide +kernel
theorem d_X5_rounded_16 : decode c_X5_rounded 16 = .ok (.goto 4, 3) := by decide +kernel
theorem d_X5_rounded_19 : decode c_X5_rounded 19 = .ok (.lload_n 0, 1) := by decide +kernel
theorem d_X5_rounded_20 : decode c_X5_rounded 20 = .ok (.lstore 4, 2) := by decide +kernel
theorem d_X5_rounded_22 : decode c_X5_rounded 22 = .ok (.lload_n 2, 1) := by decide +kernel
theorem d_X5_rounded_23 : decode c_X5_rounded 23 = .ok (.lconst 0, 1) := by decide +kernel
theorem d_X5_rounded_24 : decode c_X5_rounded 24 = .ok (.lcmp, 1) := by decide +kernel
theorem d_X5_rounded_25 : decode c_X5_rounded 25 = .ok (.ifCond .ge 8, 3) := by decide +kernel
theorem d_X5_rounded_28 : decode c_X5_rounded 28 = .ok (.lload_n 2, 1) := by decide +kernel
theorem d_X5_rounded_29 : decode c_X5_rounded 29 = .ok (.lneg, 1) := by decide +kernel
theorem d_X5_rounded_30 : decode c_X5_rounded 30 = .ok (.goto 4, 3) := by decide +kernel
theorem d_X5_rounded_33 : decode c_X5_rounded 33 = .ok (.lload_n 2, 1) := by decide +kernel
theorem d_X5_rounded_34 : decode c_X5_rounded 34 = .ok (.lstore 6, 2) := by decide +kernel
theorem d_X5_rounded_36 : decode c_X5_rounded 36 = .ok (.lload 4, 2) := by decide +kernel
theorem d_X5_rounded_38 : decode c_X5_rounded 38 = .ok (.lload 6, 2) := by decide +kernel
theorem d_X5_rounded_40 : decode c_X5_rounded 40 = .ok (.ldiv, 1) := by decide +kernel
theorem d_X5_rounded_41 : decode c_X5_rounded 41 = .ok (.lstore 8, 2) := by decide +kernel
theorem d_X5_rounded_43 : decode c_X5_rounded 43 = .ok (.ldc2_w 46, 3) := by decide +kernel
theorem d_X5_rounded_46 : decode c_X5_rounded 46 = .ok (.lload 4, 2) := by decide +kernel
theorem d_X5_rounded_48 : decode c_X5_rounded 48 = .ok (.lload 6, 2) := by decide +kernel
theorem d_X5_rounded_50 : decode c_X5_rounded 50 = .ok (.lrem, 1) := by decide +kernel
theorem d_X5_rounded_51 : decode c_X5_rounded 51 = .ok (.lmul, 1) := by decide +kernel
theorem d_X5_rounded_52 : decode c_X5_rounded 52 = .ok (.lload 6, 2) := by decide +kernel
theorem d_X5_rounded_54 : decode c_X5_rounded 54 = .ok (.lcmp, 1) := by decide +kernel
theorem d_X5_rounded_55 : decode c_X5_rounded 55 = .ok (.ifCond .lt 9, 3) := by decide +kernel
theorem d_X5_rounded_58 : decode c_X5_rounded 58 = .ok (.lload 8, 2) := by decide +kernel
theorem d_X5_rounded_60 : decode c_X5_rounded 60 = .ok (.lconst 1, 1) := by decide +kernel
theorem d_X5_rounded_61 : decode c_X5_rounded 61 = .ok (.ladd, 1) := by decide +kernel
theorem d_X5_rounded_62 : decode c_X5_rounded 62 = .ok (.lstore 8, 2) := by decide +kernel
theorem d_X5_rounded_64 : decode c_X5_rounded 64 = .ok (.lload_n 0, 1) := by decide +kernel
theorem d_X5_rounded_65 : decode c_X5_rounded 65 = .ok (.lconst 0, 1) := by decide +kernel
theorem d_X5_rounded_66 : decode c_X5_rounded 66 = .ok (.lcmp, 1) := by decide +kernel
theorem d_X5_rounded_67 : decode c_X5_rounded 67 = .ok (.ifCond .ge 7, 3) := by decide +kernel
theorem d_X5_rounded_70 : decode c_X5_rounded 70 = .ok (.iconst 1, 1) := by decide +kernel
theorem d_X5_rounded_71 : decode c_X5_rounded 71 = .ok (.goto 4, 3) := by decide +kernel
theorem d_X5_rounded_74 : decode c_X5_rounded 74 = .ok (.iconst 0, 1) := by decide +kernel
theorem d_X5_rounded_75 : decode c_X5_rounded 75 = .ok (.lload_n 2, 1) := by decide +kernel
theorem d_X5_rounded_76 : decode c_X5_rounded 76 = .ok (.lconst 0, 1) := by decide +kernel
theorem d_X5_rounded_77 : decode c_X5_rounded 77 = .ok (.lcmp, 1) := by decide +kernel
theorem d_X5_rounded_78 : decode c_X5_rounded 78 = .ok (.ifCond .ge 7, 3) := by decide +kernel
theorem d_X5_rounded_81 : decode c_X5_rounded 81 = .ok (.iconst 1, 1) := by decide +kernel
theorem d_X5_rounded_82 : decode c_X5_rounded 82 = .ok (.goto 4, 3) := by decide +kernel
theorem d_X5_rounded_85 : decode c_X5_rounded 85 = .ok (.iconst 0, 1) := by decide +kernel
theorem d_X5_rounded_86 : decode c_X5_rounded 86 = .ok (.if_icmp .ne 8, 3) := by decide +kernel
theorem d_X5_rounded_89 : decode c_X5_rounded 89 = .ok (.lload 8, 2) := by decide +kernel
theorem d_X5_rounded_91 : decode c_X5_rounded 91 = .ok (.goto 6, 3) := by decide +kernel
theorem d_X5_rounded_94 : decode c_X5_rounded 94 = .ok (.lload 8, 2) := by decide +kernel
theorem d_X5_rounded_96 : decode c_X5_rounded 96 = .ok (.lneg, 1) := by decide +kernel
theorem d_X5_rounded_97 : decode c_X5_rounded 97 = .ok (.lreturn, 1) := by decide +kernel
abbrev c_L_law : ByteArray := code
theorem d_L_law_0 : decode c_L_law 0 = .ok (.new 7, 3) := by decide +kernel
theorem d_L_law_3 : decode c_L_law 3 = .ok (.dup, 1) := by decide +kernel
theorem d_L_law_4 : decode c_L_law 4 = .ok (.invokespecial 9, 3) := by decide +kernel
theorem d_L_law_7 : decode c_L_law 7 = .ok (.astore_n 1, 1) := by decide +kernel
theorem d_L_law_8 : decode c_L_law 8 = .ok (.new 10, 3) := by decide +kernel
theorem d_L_law_11 : decode c_L_law 11 = .ok (.dup, 1) := by decide +kernel
theorem d_L_law_12 : decode c_L_law 12 = .ok (.invokespecial 12, 3) := by decide +kernel
theorem d_L_law_15 : decode c_L_law 15 = .ok (.astore_n 2, 1) := by decide +kernel
theorem d_L_law_16 : decode c_L_law 16 = .ok (.iconst 0, 1) := by decide +kernel
theorem d_L_law_17 : decode c_L_law 17 = .ok (.istore_n 3, 1) := by decide +kernel
theorem d_L_law_18 : decode c_L_law 18 = .ok (.iload_n 3, 1) := by decide +kernel
theorem d_L_law_19 : decode c_L_law 19 = .ok (.aload_n 0, 1) := by decide +kernel
theorem d_L_law_20 : decode c_L_law 20 = .ok (.arraylength, 1) := by decide +kernel
theorem d_L_law_21 : decode c_L_law 21 = .ok (.iconst 5, 1) := by decide +kernel
theorem d_L_law_22 : decode c_L_law 22 = .ok (.isub, 1) := by decide +kernel
theorem d_L_law_23 : decode c_L_law 23 = .ok (.if_icmp .gt 613, 3) := by decide +kernel
theorem d_L_law_26 : decode c_L_law 26 = .ok (.aload_n 0, 1) := by decide +kernel
theorem d_L_law_27 : decode c_L_law 27 = .ok (.iload_n 3, 1) := by decide +kernel
theorem d_L_law_28 : decode c_L_law 28 = .ok (.iaload, 1) := by decide +kernel
theorem d_L_law_29 : decode c_L_law 29 = .ok (.bipush 15, 2) := by decide +kernel
theorem d_L_law_31 : decode c_L_law 31 = .ok (.iand, 1) := by decide +kernel
theorem d_L_law_32 : decode c_L_law 32 = .ok (.tableswitch 598 0 15 #[80, 133, 166, 189, 232, 255, 298, 347, 381, 394, 417, 440, 484, 517, 541, 575], 80) := by decide +kernel
theorem d_L_law_112 : decode c_L_law 112 = .ok (.aload_n 1, 1) := by decide +kernel
theorem d_L_law_113 : decode c_L_law 113 = .ok (.aload_n 0, 1) := by decide +kernel
theorem d_L_law_114 : decode c_L_law 114 = .ok (.iload_n 3, 1) := by decide +kernel
theorem d_L_law_115 : decode c_L_law 115 = .ok (.iconst 1, 1) := by decide +kernel
theorem d_L_law_116 : decode c_L_law 116 = .ok (.iadd, 1) := by decide +kernel
theorem d_L_law_117 : decode c_L_law 117 = .ok (.iaload, 1) := by decide +kernel
theorem d_L_law_118 : decode c_L_law 118 = .ok (.aload_n 0, 1) := by decide +kernel
theorem d_L_law_119 : decode c_L_law 119 = .ok (.iload_n 3, 1) := by decide +kernel
theorem d_L_law_120 : decode c_L_law 120 = .ok (.iconst 2, 1) := by decide +kernel
theorem d_L_law_121 : decode c_L_law 121 = .ok (.iadd, 1) := by decide +kernel
theorem d_L_law_122 : decode c_L_law 122 = .ok (.iaload, 1) := by decide +kernel
theorem d_L_law_123 : decode c_L_law 123 = .ok (.aload_n 0, 1) := by decide +kernel
theorem d_L_law_124 : decode c_L_law 124 = .ok (.iload_n 3, 1) := by decide +kernel
theorem d_L_law_125 : decode c_L_law 125 = .ok (.iconst 3, 1) := by decide +kernel
theorem d_L_law_126 : decode c_L_law 126 = .ok (.iadd, 1) := by decide +kernel
theorem d_L_law_127 : decode c_L_law 127 = .ok (.iaload, 1) := by decide +kernel
theorem d_L_law_128 : decode c_L_law 128 = .ok (.aload_n 0, 1) := by decide +kernel
theorem d_L_law_129 : decode c_L_law 129 = .ok (.iload_n 3, 1) := by decide +kernel
theorem d_L_law_130 : decode c_L_law 130 = .ok (.iconst 4, 1) := by decide +kernel
theorem d_L_law_131 : decode c_L_law 131 = .ok (.iadd, 1) := by decide +kernel
theorem d_L_law_132 : decode c_L_law 132 = .ok (.iaload, 1) := by decide +kernel
theorem d_L_law_133 : decode c_L_law 133 = .ok (.invokevirtual 13, 3) := by decide +kernel
theorem d_L_law_136 : decode c_L_law 136 = .ok (.aload_n 2, 1) := by decide +kernel
theorem d_L_law_137 : decode c_L_law 137 = .ok (.aload_n 0, 1) := by decide +kernel
theorem d_L_law_138 : decode c_L_law 138 = .ok (.iload_n 3, 1) := by decide +kernel
theorem d_L_law_139 : decode c_L_law 139 = .ok (.iconst 1, 1) := by decide +kernel
theorem d_L_law_140 : decode c_L_law 140 = .ok (.iadd, 1) := by decide +kernel
theorem d_L_law_141 : decode c_L_law 141 = .ok (.iaload, 1) := by decide +kernel
theorem d_L_law_142 : decode c_L_law 142 = .ok (.aload_n 0, 1) := by decide +kernel
theorem d_L_law_143 : decode c_L_law 143 = .ok (.iload_n 3, 1) := by decide +kernel
theorem d_L_law_144 : decode c_L_law 144 = .ok (.iconst 2, 1) := by decide +kernel
theorem d_L_law_145 : decode c_L_law 145 = .ok (.iadd, 1) := by decide +kernel
theorem d_L_law_146 : decode c_L_law 146 = .ok (.iaload, 1) := by decide +kernel
theorem d_L_law_147 : decode c_L_law 147 = .ok (.aload_n 0, 1) := by decide +kernel
theorem d_L_law_148 : decode c_L_law 148 = .ok (.iload_n 3, 1) := by decide +kernel
theorem d_L_law_149 : decode c_L_law 149 = .ok (.iconst 3, 1) := by decide +kernel
theorem d_L_law_150 : decode c_L_law 150 = .ok (.iadd, 1) := by decide +kernel
theorem d_L_law_151 : decode c_L_law 151 = .ok (.iaload, 1) := by decide +kernel
theorem d_L_law_152 : decode c_L_law 152 = .ok (.aload_n 0, 1) := by decide +kernel
theorem d_L_law_153 : decode c_L_law 153 = .ok (.iload_n 3, 1) := by decide +kernel
theorem d_L_law_154 : decode c_L_law 154 = .ok (.iconst 4, 1) := by decide +kernel
theorem d_L_law_155 : decode c_L_law 155 = .ok (.iadd, 1) := by decide +kernel
theorem d_L_law_156 : decode c_L_law 156 = .ok (.iaload, 1) := by decide +kernel
theorem d_L_law_157 : decode c_L_law 157 = .ok (.invokevirtual 17, 3) := by decide +kernel
theorem d_L_law_160 : decode c_L_law 160 = .ok (.if_icmp .eq 470, 3) := by decide +kernel
theorem d_L_law_163 : decode c_L_law 163 = .ok (.iconst 0, 1) := by decide +kernel
theorem d_L_law_164 : decode c_L_law 164 = .ok (.ireturn, 1) := by decide +kernel
theorem d_L_law_165 : decode c_L_law 165 = .ok (.aload_n 1, 1) := by decide +kernel
theorem d_L_law_166 : decode c_L_law 166 = .ok (.aload_n 0, 1) := by decide +kernel
theorem d_L_law_167 : decode c_L_law 167 = .ok (.iload_n 3, 1) := by decide +kernel
theorem d_L_law_168 : decode c_L_law 168 = .ok (.iconst 1, 1) := by decide +kernel
theorem d_L_law_169 : decode c_L_law 169 = .ok (.iadd, 1) := by decide +kernel
theorem d_L_law_170 : decode c_L_law 170 = .ok (.iaload, 1) := by decide +kernel
theorem d_L_law_171 : decode c_L_law 171 = .ok (.aload_n 0, 1) := by decide +kernel
theorem d_L_law_172 : decode c_L_law 172 = .ok (.iload_n 3, 1) := by decide +kernel
theorem d_L_law_173 : decode c_L_law 173 = .ok (.iconst 2, 1) := by decide +kernel
theorem d_L_law_174 : decode c_L_law 174 = .ok (.iadd, 1) := by decide +kernel
theorem d_L_law_175 : decode c_L_law 175 = .ok (.iaload, 1) := by decide +kernel
theorem d_L_law_176 : decode c_L_law 176 = .ok (.invokevirtual 18, 3) := by decide +kernel
theorem d_L_law_179 : decode c_L_law 179 = .ok (.aload_n 2, 1) := by decide +kernel
theorem d_L_law_180 : decode c_L_law 180 = .ok (.aload_n 0, 1) := by decide +kernel
theorem d_L_law_181 : decode c_L_law 181 = .ok (.iload_n 3, 1) := by decide +kernel
theorem d_L_law_182 : decode c_L_law 182 = .ok (.iconst 1, 1) := by decide +kernel
theorem d_L_law_183 : decode c_L_law 183 = .ok (.iadd, 1) := by decide +kernel
theorem d_L_law_184 : decode c_L_law 184 = .ok (.iaload, 1) := by decide +kernel
theorem d_L_law_185 : decode c_L_law 185 = .ok (.aload_n 0, 1) := by decide +kernel
theorem d_L_law_186 : decode c_L_law 186 = .ok (.iload_n 3, 1) := by decide +kernel
theorem d_L_law_187 : decode c_L_law 187 = .ok (.iconst 2, 1) := by decide +kernel
theorem d_L_law_188 : decode c_L_law 188 = .ok (.iadd, 1) := by decide +kernel
theorem d_L_law_189 : decode c_L_law 189 = .ok (.iaload, 1) := by decide +kernel
theorem d_L_law_190 : decode c_L_law 190 = .ok (.invokevirtual 22, 3) := by decide +kernel
theorem d_L_law_193 : decode c_L_law 193 = .ok (.if_icmp .eq 437, 3) := by decide +kernel
theorem d_L_law_196 : decode c_L_law 196 = .ok (.iconst 0, 1) := by decide +kernel
theorem d_L_law_197 : decode c_L_law 197 = .ok (.ireturn, 1) := by decide +kernel
theorem d_L_law_198 : decode c_L_law 198 = .ok (.aload_n 1, 1) := by decide +kernel
theorem d_L_law_199 : decode c_L_law 199 = .ok (.aload_n 0, 1) := by decide +kernel
theorem d_L_law_200 : decode c_L_law 200 = .ok (.iload_n 3, 1) := by decide +kernel
theorem d_L_law_201 : decode c_L_law 201 = .ok (.iconst 1, 1) := by decide +kernel
theorem d_L_law_202 : decode c_L_law 202 = .ok (.iadd, 1) := by decide +kernel
theorem d_L_law_203 : decode c_L_law 203 = .ok (.iaload, 1) := by decide +kernel
theorem d_L_law_204 : decode c_L_law 204 = .ok (.invokevirtual 23, 3) := by decide +kernel
theorem d_L_law_207 : decode c_L_law 207 = .ok (.aload_n 2, 1) := by decide +kernel
theorem d_L_law_208 : decode c_L_law 208 = .ok (.aload_n 0, 1) := by decide +kernel
theorem d_L_law_209 : decode c_L_law 209 = .ok (.iload_n 3, 1) := by decide +kernel
theorem d_L_law_210 : decode c_L_law 210 = .ok (.iconst 1, 1) := by decide +kernel
theorem d_L_law_211 : decode c_L_law 211 = .ok (.iadd, 1) := by decide +kernel
theorem d_L_law_212 : decode c_L_law 212 = .ok (.iaload, 1) := by decide +kernel
theorem d_L_law_213 : decode c_L_law 213 = .ok (.invokevirtual 27, 3) := by decide +kernel
theorem d_L_law_216 : decode c_L_law 216 = .ok (.if_icmp .eq 414, 3) := by decide +kernel
theorem d_L_law_219 : decode c_L_law 219 = .ok (.iconst 0, 1) := by decide +kernel
theorem d_L_law_220 : decode c_L_law 220 = .ok (.ireturn, 1) := by decide +kernel
theorem d_L_law_221 : decode c_L_law 221 = .ok (.aload_n 1, 1) := by decide +kernel
theorem d_L_law_222 : decode c_L_law 222 = .ok (.aload_n 0, 1) := by decide +kernel
theorem d_L_law_223 : decode c_L_law 223 = .ok (.iload_n 3, 1) := by decide +kernel
theorem d_L_law_224 : decode c_L_law 224 = .ok (.iconst 1, 1) := by decide +kernel
theorem d_L_law_225 : decode c_L_law 225 = .ok (.iadd, 1) := by decide +kernel
theorem d_L_law_226 : decode c_L_law 226 = .ok (.iaload, 1) := by decide +kernel
theorem d_L_law_227 : decode c_L_law 227 = .ok (.aload_n 0, 1) := by decide +kernel
theorem d_L_law_228 : decode c_L_law 228 = .ok (.iload_n 3, 1) := by decide +kernel
theorem d_L_law_229 : decode c_L_law 229 = .ok (.iconst 2, 1) := by decide +kernel
theorem d_L_law_230 : decode c_L_law 230 = .ok (.iadd, 1) := by decide +kernel
theorem d_L_law_231 : decode c_L_law 231 = .ok (.iaload, 1) := by decide +kernel
theorem d_L_law_232 : decode c_L_law 232 = .ok (.aload_n 0, 1) := by decide +kernel
theorem d_L_law_233 : decode c_L_law 233 = .ok (.iload_n 3, 1) := by decide +kernel
theorem d_L_law_234 : decode c_L_law 234 = .ok (.iconst 3, 1) := by decide +kernel
theorem d_L_law_235 : decode c_L_law 235 = .ok (.iadd, 1) := by decide +kernel
theorem d_L_law_236 : decode c_L_law 236 = .ok (.iaload, 1) := by decide +kernel
theorem d_L_law_237 : decode c_L_law 237 = .ok (.invokevirtual 28, 3) := by decide +kernel
theorem d_L_law_240 : decode c_L_law 240 = .ok (.aload_n 2, 1) := by decide +kernel
theorem d_L_law_241 : decode c_L_law 241 = .ok (.aload_n 0, 1) := by decide +kernel
theorem d_L_law_242 : decode c_L_law 242 = .ok (.iload_n 3, 1) := by decide +kernel
theorem d_L_law_243 : decode c_L_law 243 = .ok (.iconst 1, 1) := by decide +kernel
theorem d_L_law_244 : decode c_L_law 244 = .ok (.iadd, 1) := by decide +kernel
theorem d_L_law_245 : decode c_L_law 245 = .ok (.iaload, 1) := by decide +kernel
theorem d_L_law_246 : decode c_L_law 246 = .ok (.aload_n 0, 1) := by decide +kernel
theorem d_L_law_247 : decode c_L_law 247 = .ok (.iload_n 3, 1) := by decide +kernel
theorem d_L_law_248 : decode c_L_law 248 = .ok (.iconst 2, 1) := by decide +kernel
theorem d_L_law_249 : decode c_L_law 249 = .ok (.iadd, 1) := by decide +kernel
theorem d_L_law_250 : decode c_L_law 250 = .ok (.iaload, 1) := by decide +kernel
theorem d_L_law_251 : decode c_L_law 251 = .ok (.aload_n 0, 1) := by decide +kernel
theorem d_L_law_252 : decode c_L_law 252 = .ok (.iload_n 3, 1) := by decide +kernel
theorem d_L_law_253 : decode c_L_law 253 = .ok (.iconst 3, 1) := by decide +kernel
theorem d_L_law_254 : decode c_L_law 254 = .ok (.iadd, 1) := by decide +kernel
theorem d_L_law_255 : decode c_L_law 255 = .ok (.iaload, 1) := by decide +kernel
theorem d_L_law_256 : decode c_L_law 256 = .ok (.invokevirtual 32, 3) := by decide +kernel
theorem d_L_law_259 : decode c_L_law 259 = .ok (.if_icmp .eq 371, 3) := by decide +kernel
theorem d_L_law_262 : decode c_L_law 262 = .ok (.iconst 0, 1) := by decide +kernel
theorem d_L_law_263 : decode c_L_law 263 = .ok (.ireturn, 1) := by decide +kernel
theorem d_L_law_264 : decode c_L_law 264 = .ok (.aload_n 1, 1) := by decide +kernel
theorem d_L_law_265 : decode c_L_law 265 = .ok (.aload_n 0, 1) := by decide +kernel
theorem d_L_law_266 : decode c_L_law 266 = .ok (.iload_n 3, 1) := by decide +kernel
theorem d_L_law_267 : decode c_L_law 267 = .ok (.iconst 1, 1) := by decide +kernel
theorem d_L_law_268 : decode c_L_law 268 = .ok (.iadd, 1) := by decide +kernel
theorem d_L_law_269 : decode c_L_law 269 = .ok (.iaload, 1) := by decide +kernel
theorem d_L_law_270 : decode c_L_law 270 = .ok (.invokevirtual 33, 3) := by decide +kernel
theorem d_L_law_273 : decode c_L_law 273 = .ok (.aload_n 2, 1) := by decide +kernel
theorem d_L_law_274 : decode c_L_law 274 = .ok (.aload_n 0, 1) := by decide +kernel
theorem d_L_law_275 : decode c_L_law 275 = .ok (.iload_n 3, 1) := by decide +kernel
theorem d_L_law_276 : decode c_L_law 276 = .ok (.iconst 1, 1) := by decide +kernel
theorem d_L_law_277 : decode c_L_law 277 = .ok (.iadd, 1) := by decide +kernel
theorem d_L_law_278 : decode c_L_law 278 = .ok (.iaload, 1) := by decide +kernel
theorem d_L_law_279 : decode c_L_law 279 = .ok (.invokevirtual 36, 3) := by decide +kernel
theorem d_L_law_282 : decode c_L_law 282 = .ok (.if_icmp .eq 348, 3) := by decide +kernel
theorem d_L_law_285 : decode c_L_law 285 = .ok (.iconst 0, 1) := by decide +kernel
theorem d_L_law_286 : decode c_L_law 286 = .ok (.ireturn, 1) := by decide +kernel
theorem d_L_law_287 : decode c_L_law 287 = .ok (.aload_n 1, 1) := by decide +kernel
theorem d_L_law_288 : decode c_L_law 288 = .ok (.aload_n 0, 1) := by decide +kernel
theorem d_L_law_289 : decode c_L_law 289 = .ok (.iload_n 3, 1) := by decide +kernel
theorem d_L_law_290 : decode c_L_law 290 = .ok (.iconst 1, 1) := by decide +kernel
theorem d_L_law_291 : decode c_L_law 291 = .ok (.iadd, 1) := by decide +kernel
theorem d_L_law_292 : decode c_L_law 292 = .ok (.iaload, 1) := by decide +kernel
theorem d_L_law_293 : decode c_L_law 293 = .ok (.aload_n 0, 1) := by decide +kernel
theorem d_L_law_294 : decode c_L_law 294 = .ok (.iload_n 3, 1) := by decide +kernel
theorem d_L_law_295 : decode c_L_law 295 = .ok (.iconst 2, 1) := by decide +kernel
theorem d_L_law_296 : decode c_L_law 296 = .ok (.iadd, 1) := by decide +kernel
theorem d_L_law_297 : decode c_L_law 297 = .ok (.iaload, 1) := by decide +kernel
theorem d_L_law_298 : decode c_L_law 298 = .ok (.aload_n 0, 1) := by decide +kernel
theorem d_L_law_299 : decode c_L_law 299 = .ok (.iload_n 3, 1) := by decide +kernel
theorem d_L_law_300 : decode c_L_law 300 = .ok (.iconst 3, 1) := by decide +kernel
theorem d_L_law_301 : decode c_L_law 301 = .ok (.iadd, 1) := by decide +kernel
theorem d_L_law_302 : decode c_L_law 302 = .ok (.iaload, 1) := by decide +kernel
theorem d_L_law_303 : decode c_L_law 303 = .ok (.invokevirtual 37, 3) := by decide +kernel
theorem d_L_law_306 : decode c_L_law 306 = .ok (.aload_n 2, 1) := by decide +kernel
theorem d_L_law_307 : decode c_L_law 307 = .ok (.aload_n 0, 1) := by decide +kernel
theorem d_L_law_308 : decode c_L_law 308 = .ok (.iload_n 3, 1) := by decide +kernel
theorem d_L_law_309 : decode c_L_law 309 = .ok (.iconst 1, 1) := by decide +kernel
theorem d_L_law_310 : decode c_L_law 310 = .ok (.iadd, 1) := by decide +kernel
theorem d_L_law_311 : decode c_L_law 311 = .ok (.iaload, 1) := by decide +kernel
theorem d_L_law_312 : decode c_L_law 312 = .ok (.aload_n 0, 1) := by decide +kernel
theorem d_L_law_313 : decode c_L_law 313 = .ok (.iload_n 3, 1) := by decide +kernel
theorem d_L_law_314 : decode c_L_law 314 = .ok (.iconst 2, 1) := by decide +kernel
theorem d_L_law_315 : decode c_L_law 315 = .ok (.iadd, 1) := by decide +kernel
theorem d_L_law_316 : decode c_L_law 316 = .ok (.iaload, 1) := by decide +kernel
theorem d_L_law_317 : decode c_L_law 317 = .ok (.aload_n 0, 1) := by decide +kernel
theorem d_L_law_318 : decode c_L_law 318 = .ok (.iload_n 3, 1) := by decide +kernel
theorem d_L_law_319 : decode c_L_law 319 = .ok (.iconst 3, 1) := by decide +kernel
theorem d_L_law_320 : decode c_L_law 320 = .ok (.iadd, 1) := by decide +kernel
theorem d_L_law_321 : decode c_L_law 321 = .ok (.iaload, 1) := by decide +kernel
theorem d_L_law_322 : decode c_L_law 322 = .ok (.invokevirtual 40, 3) := by decide +kernel
theorem d_L_law_325 : decode c_L_law 325 = .ok (.if_icmp .eq 305, 3) := by decide +kernel
theorem d_L_law_328 : decode c_L_law 328 = .ok (.iconst 0, 1) := by decide +kernel
theorem d_L_law_329 : decode c_L_law 329 = .ok (.ireturn, 1) := by decide +kernel
theorem d_L_law_330 : decode c_L_law 330 = .ok (.aload_n 1, 1) := by decide +kernel
theorem d_L_law_331 : decode c_L_law 331 = .ok (.aload_n 0, 1) := by decide +kernel
theorem d_L_law_332 : decode c_L_law 332 = .ok (.iload_n 3, 1) := by decide +kernel
theorem d_L_law_333 : decode c_L_law 333 = .ok (.iconst 1, 1) := by decide +kernel
theorem d_L_law_334 : decode c_L_law 334 = .ok (.iadd, 1) := by decide +kernel
theorem d_L_law_335 : decode c_L_law 335 = .ok (.iaload, 1) := by decide +kernel
theorem d_L_law_336 : decode c_L_law 336 = .ok (.aload_n 0, 1) := by decide +kernel
theorem d_L_law_337 : decode c_L_law 337 = .ok (.iload_n 3, 1) := by decide +kernel
theorem d_L_law_338 : decode c_L_law 338 = .ok (.iconst 2, 1) := by decide +kernel
theorem d_L_law_339 : decode c_L_law 339 = .ok (.iadd, 1) := by decide +kernel
theorem d_L_law_340 : decode c_L_law 340 = .ok (.iaload, 1) := by decide +kernel
theorem d_L_law_341 : decode c_L_law 341 = .ok (.ifCond .eq 7, 3) := by decide +kernel
theorem d_L_law_344 : decode c_L_law 344 = .ok (.iconst 1, 1) := by decide +kernel
theorem d_L_law_345 : decode c_L_law 345 = .ok (.goto 4, 3) := by decide +kernel
theorem d_L_law_348 : decode c_L_law 348 = .ok (.iconst 0, 1) := by decide +kernel
theorem d_L_law_349 : decode c_L_law 349 = .ok (.invokevirtual 41, 3) := by decide +kernel
theorem d_L_law_352 : decode c_L_law 352 = .ok (.aload_n 2, 1) := by decide +kernel
theorem d_L_law_353 : decode c_L_law 353 = .ok (.aload_n 0, 1) := by decide +kernel
theorem d_L_law_354 : decode c_L_law 354 = .ok (.iload_n 3, 1) := by decide +kernel
theorem d_L_law_355 : decode c_L_law 355 = .ok (.iconst 1, 1) := by decide +kernel
theorem d_L_law_356 : decode c_L_law 356 = .ok (.iadd, 1) := by decide +kernel
theorem d_L_law_357 : decode c_L_law 357 = .ok (.iaload, 1) := by decide +kernel
theorem d_L_law_358 : decode c_L_law 358 = .ok (.aload_n 0, 1) := by decide +kernel
theorem d_L_law_359 : decode c_L_law 359 = .ok (.iload_n 3, 1) := by decide +kernel
theorem d_L_law_360 : decode c_L_law 360 = .ok (.iconst 2, 1) := by decide +kernel
theorem d_L_law_361 : decode c_L_law 361 = .ok (.iadd, 1) := by decide +kernel
theorem d_L_law_362 : decode c_L_law 362 = .ok (.iaload, 1) := by decide +kernel
theorem d_L_law_363 : decode c_L_law 363 = .ok (.ifCond .eq 7, 3) := by decide +kernel
theorem d_L_law_366 : decode c_L_law 366 = .ok (.iconst 1, 1) := by decide +kernel
theorem d_L_law_367 : decode c_L_law 367 = .ok (.goto 4, 3) := by decide +kernel
theorem d_L_law_370 : decode c_L_law 370 = .ok (.iconst 0, 1) := by decide +kernel
theorem d_L_law_371 : decode c_L_law 371 = .ok (.invokevirtual 45, 3) := by decide +kernel
theorem d_L_law_374 : decode c_L_law 374 = .ok (.if_icmp .eq 256, 3) := by decide +kernel
theorem d_L_law_377 : decode c_L_law 377 = .ok (.iconst 0, 1) := by decide +kernel
theorem d_L_law_378 : decode c_L_law 378 = .ok (.ireturn, 1) := by decide +kernel
theorem d_L_law_379 : decode c_L_law 379 = .ok (.aload_n 1, 1) := by decide +kernel
theorem d_L_law_380 : decode c_L_law 380 = .ok (.aload_n 0, 1) := by decide +kernel
theorem d_L_law_381 : decode c_L_law 381 = .ok (.iload_n 3, 1) := by decide +kernel
theorem d_L_law_382 : decode c_L_law 382 = .ok (.iconst 1, 1) := by decide +kernel
theorem d_L_law_383 : decode c_L_law 383 = .ok (.iadd, 1) := by decide +kernel
theorem d_L_law_384 : decode c_L_law 384 = .ok (.iaload, 1) := by decide +kernel
theorem d_L_law_385 : decode c_L_law 385 = .ok (.aload_n 0, 1) := by decide +kernel
theorem d_L_law_386 : decode c_L_law 386 = .ok (.iload_n 3, 1) := by decide +kernel
theorem d_L_law_387 : decode c_L_law 387 = .ok (.iconst 2, 1) := by decide +kernel
theorem d_L_law_388 : decode c_L_law 388 = .ok (.iadd, 1) := by decide +kernel
theorem d_L_law_389 : decode c_L_law 389 = .ok (.iaload, 1) := by decide +kernel
theorem d_L_law_390 : decode c_L_law 390 = .ok (.invokevirtual 46, 3) := by decide +kernel
theorem d_L_law_393 : decode c_L_law 393 = .ok (.aload_n 2, 1) := by decide +kernel
theorem d_L_law_394 : decode c_L_law 394 = .ok (.aload_n 0, 1) := by decide +kernel
theorem d_L_law_395 : decode c_L_law 395 = .ok (.iload_n 3, 1) := by decide +kernel
theorem d_L_law_396 : decode c_L_law 396 = .ok (.iconst 1, 1) := by decide +kernel
theorem d_L_law_397 : decode c_L_law 397 = .ok (.iadd, 1) := by decide +kernel
theorem d_L_law_398 : decode c_L_law 398 = .ok (.iaload, 1) := by decide +kernel
theorem d_L_law_399 : decode c_L_law 399 = .ok (.aload_n 0, 1) := by decide +kernel
theorem d_L_law_400 : decode c_L_law 400 = .ok (.iload_n 3, 1) := by decide +kernel
theorem d_L_law_401 : decode c_L_law 401 = .ok (.iconst 2, 1) := by decide +kernel
theorem d_L_law_402 : decode c_L_law 402 = .ok (.iadd, 1) := by decide +kernel
theorem d_L_law_403 : decode c_L_law 403 = .ok (.iaload, 1) := by decide +kernel
theorem d_L_law_404 : decode c_L_law 404 = .ok (.invokevirtual 50, 3) := by decide +kernel
theorem d_L_law_407 : decode c_L_law 407 = .ok (.lcmp, 1) := by decide +kernel
theorem d_L_law_408 : decode c_L_law 408 = .ok (.ifCond .eq 222, 3) := by decide +kernel
theorem d_L_law_411 : decode c_L_law 411 = .ok (.iconst 0, 1) := by decide +kernel
theorem d_L_law_412 : decode c_L_law 412 = .ok (.ireturn, 1) := by decide +kernel
theorem d_L_law_413 : decode c_L_law 413 = .ok (.aload_n 1, 1) := by decide +kernel
theorem d_L_law_414 : decode c_L_law 414 = .ok (.invokevirtual 51, 3) := by decide +kernel
theorem d_L_law_417 : decode c_L_law 417 = .ok (.aload_n 2, 1) := by decide +kernel
theorem d_L_law_418 : decode c_L_law 418 = .ok (.invokevirtual 55, 3) := by decide +kernel
theorem d_L_law_421 : decode c_L_law 421 = .ok (.if_icmp .eq 209, 3) := by decide +kernel
theorem d_L_law_424 : decode c_L_law 424 = .ok (.iconst 0, 1) := by decide +kernel
theorem d_L_law_425 : decode c_L_law 425 = .ok (.ireturn, 1) := by decide +kernel
theorem d_L_law_426 : decode c_L_law 426 = .ok (.aload_n 1, 1) := by decide +kernel
theorem d_L_law_427 : decode c_L_law 427 = .ok (.aload_n 0, 1) := by decide +kernel
theorem d_L_law_428 : decode c_L_law 428 = .ok (.iload_n 3, 1) := by decide +kernel
theorem d_L_law_429 : decode c_L_law 429 = .ok (.iconst 1, 1) := by decide +kernel
theorem d_L_law_430 : decode c_L_law 430 = .ok (.iadd, 1) := by decide +kernel
theorem d_L_law_431 : decode c_L_law 431 = .ok (.iaload, 1) := by decide +kernel
theorem d_L_law_432 : decode c_L_law 432 = .ok (.invokevirtual 56, 3) := by decide +kernel
theorem d_L_law_435 : decode c_L_law 435 = .ok (.aload_n 2, 1) := by decide +kernel
theorem d_L_law_436 : decode c_L_law 436 = .ok (.aload_n 0, 1) := by decide +kernel
theorem d_L_law_437 : decode c_L_law 437 = .ok (.iload_n 3, 1) := by decide +kernel
theorem d_L_law_438 : decode c_L_law 438 = .ok (.iconst 1, 1) := by decide +kernel
theorem d_L_law_439 : decode c_L_law 439 = .ok (.iadd, 1) := by decide +kernel
theorem d_L_law_440 : decode c_L_law 440 = .ok (.iaload, 1) := by decide +kernel
theorem d_L_law_441 : decode c_L_law 441 = .ok (.invokevirtual 59, 3) := by decide +kernel
theorem d_L_law_444 : decode c_L_law 444 = .ok (.if_icmp .eq 186, 3) := by decide +kernel
theorem d_L_law_447 : decode c_L_law 447 = .ok (.iconst 0, 1) := by decide +kernel
theorem d_L_law_448 : decode c_L_law 448 = .ok (.ireturn, 1) := by decide +kernel
theorem d_L_law_449 : decode c_L_law 449 = .ok (.aload_n 1, 1) := by decide +kernel
theorem d_L_law_450 : decode c_L_law 450 = .ok (.aload_n 0, 1) := by decide +kernel
theorem d_L_law_451 : decode c_L_law 451 = .ok (.iload_n 3, 1) := by decide +kernel
theorem d_L_law_452 : decode c_L_law 452 = .ok (.iconst 1, 1) := by decide +kernel
theorem d_L_law_453 : decode c_L_law 453 = .ok (.iadd, 1) := by decide +kernel
theorem d_L_law_454 : decode c_L_law 454 = .ok (.iaload, 1) := by decide +kernel
theorem d_L_law_455 : decode c_L_law 455 = .ok (.invokevirtual 60, 3) := by decide +kernel
theorem d_L_law_458 : decode c_L_law 458 = .ok (.aload_n 2, 1) := by decide +kernel
theorem d_L_law_459 : decode c_L_law 459 = .ok (.aload_n 0, 1) := by decide +kernel
theorem d_L_law_460 : decode c_L_law 460 = .ok (.iload_n 3, 1) := by decide +kernel
theorem d_L_law_461 : decode c_L_law 461 = .ok (.iconst 1, 1) := by decide +kernel
theorem d_L_law_462 : decode c_L_law 462 = .ok (.iadd, 1) := by decide +kernel
theorem d_L_law_463 : decode c_L_law 463 = .ok (.iaload, 1) := by decide +kernel
theorem d_L_law_464 : decode c_L_law 464 = .ok (.invokevirtual 63, 3) := by decide +kernel
theorem d_L_law_467 : decode c_L_law 467 = .ok (.if_icmp .eq 163, 3) := by decide +kernel
theorem d_L_law_470 : decode c_L_law 470 = .ok (.iconst 0, 1) := by decide +kernel
theorem d_L_law_471 : decode c_L_law 471 = .ok (.ireturn, 1) := by decide +kernel
theorem d_L_law_472 : decode c_L_law 472 = .ok (.aload_n 1, 1) := by decide +kernel
theorem d_L_law_473 : decode c_L_law 473 = .ok (.aload_n 0, 1) := by decide +kernel
theorem d_L_law_474 : decode c_L_law 474 = .ok (.iload_n 3, 1) := by decide +kernel
theorem d_L_law_475 : decode c_L_law 475 = .ok (.iconst 1, 1) := by decide +kernel
theorem d_L_law_476 : decode c_L_law 476 = .ok (.iadd, 1) := by decide +kernel
theorem d_L_law_477 : decode c_L_law 477 = .ok (.iaload, 1) := by decide +kernel
theorem d_L_law_478 : decode c_L_law 478 = .ok (.aload_n 0, 1) := by decide +kernel
theorem d_L_law_479 : decode c_L_law 479 = .ok (.iload_n 3, 1) := by decide +kernel
theorem d_L_law_480 : decode c_L_law 480 = .ok (.iconst 2, 1) := by decide +kernel
theorem d_L_law_481 : decode c_L_law 481 = .ok (.iadd, 1) := by decide +kernel
theorem d_L_law_482 : decode c_L_law 482 = .ok (.iaload, 1) := by decide +kernel
theorem d_L_law_483 : decode c_L_law 483 = .ok (.aload_n 0, 1) := by decide +kernel
theorem d_L_law_484 : decode c_L_law 484 = .ok (.iload_n 3, 1) := by decide +kernel
theorem d_L_law_485 : decode c_L_law 485 = .ok (.iconst 3, 1) := by decide +kernel
theorem d_L_law_486 : decode c_L_law 486 = .ok (.iadd, 1) := by decide +kernel
theorem d_L_law_487 : decode c_L_law 487 = .ok (.iaload, 1) := by decide +kernel
theorem d_L_law_488 : decode c_L_law 488 = .ok (.invokevirtual 64, 3) := by decide +kernel
theorem d_L_law_491 : decode c_L_law 491 = .ok (.aload_n 2, 1) := by decide +kernel
theorem d_L_law_492 : decode c_L_law 492 = .ok (.aload_n 0, 1) := by decide +kernel
theorem d_L_law_493 : decode c_L_law 493 = .ok (.iload_n 3, 1) := by decide +kernel
theorem d_L_law_494 : decode c_L_law 494 = .ok (.iconst 1, 1) := by decide +kernel
theorem d_L_law_495 : decode c_L_law 495 = .ok (.iadd, 1) := by decide +kernel
theorem d_L_law_496 : decode c_L_law 496 = .ok (.iaload, 1) := by decide +kernel
theorem d_L_law_497 : decode c_L_law 497 = .ok (.aload_n 0, 1) := by decide +kernel
theorem d_L_law_498 : decode c_L_law 498 = .ok (.iload_n 3, 1) := by decide +kernel
theorem d_L_law_499 : decode c_L_law 499 = .ok (.iconst 2, 1) := by decide +kernel
theorem d_L_law_500 : decode c_L_law 500 = .ok (.iadd, 1) := by decide +kernel
theorem d_L_law_501 : decode c_L_law 501 = .ok (.iaload, 1) := by decide +kernel
theorem d_L_law_502 : decode c_L_law 502 = .ok (.aload_n 0, 1) := by decide +kernel
theorem d_L_law_503 : decode c_L_law 503 = .ok (.iload_n 3, 1) := by decide +kernel
theorem d_L_law_504 : decode c_L_law 504 = .ok (.iconst 3, 1) := by decide +kernel
theorem d_L_law_505 : decode c_L_law 505 = .ok (.iadd, 1) := by decide +kernel
theorem d_L_law_506 : decode c_L_law 506 = .ok (.iaload, 1) := by decide +kernel
theorem d_L_law_507 : decode c_L_law 507 = .ok (.invokevirtual 68, 3) := by decide +kernel
theorem d_L_law_510 : decode c_L_law 510 = .ok (.lcmp, 1) := by decide +kernel
theorem d_L_law_511 : decode c_L_law 511 = .ok (.ifCond .eq 119, 3) := by decide +kernel
theorem d_L_law_514 : decode c_L_law 514 = .ok (.iconst 0, 1) := by decide +kernel
theorem d_L_law_515 : decode c_L_law 515 = .ok (.ireturn, 1) := by decide +kernel
theorem d_L_law_516 : decode c_L_law 516 = .ok (.aload_n 1, 1) := by decide +kernel
theorem d_L_law_517 : decode c_L_law 517 = .ok (.aload_n 0, 1) := by decide +kernel
theorem d_L_law_518 : decode c_L_law 518 = .ok (.iload_n 3, 1) := by decide +kernel
theorem d_L_law_519 : decode c_L_law 519 = .ok (.iconst 1, 1) := by decide +kernel
theorem d_L_law_520 : decode c_L_law 520 = .ok (.iadd, 1) := by decide +kernel
theorem d_L_law_521 : decode c_L_law 521 = .ok (.iaload, 1) := by decide +kernel
theorem d_L_law_522 : decode c_L_law 522 = .ok (.aload_n 0, 1) := by decide +kernel
theorem d_L_law_523 : decode c_L_law 523 = .ok (.iload_n 3, 1) := by decide +kernel
theorem d_L_law_524 : decode c_L_law 524 = .ok (.iconst 2, 1) := by decide +kernel
theorem d_L_law_525 : decode c_L_law 525 = .ok (.iadd, 1) := by decide +kernel
theorem d_L_law_526 : decode c_L_law 526 = .ok (.iaload, 1) := by decide +kernel
theorem d_L_law_527 : decode c_L_law 527 = .ok (.invokevirtual 69, 3) := by decide +kernel
theorem d_L_law_530 : decode c_L_law 530 = .ok (.aload_n 2, 1) := by decide +kernel
theorem d_L_law_531 : decode c_L_law 531 = .ok (.aload_n 0, 1) := by decide +kernel
theorem d_L_law_532 : decode c_L_law 532 = .ok (.iload_n 3, 1) := by decide +kernel
theorem d_L_law_533 : decode c_L_law 533 = .ok (.iconst 1, 1) := by decide +kernel
theorem d_L_law_534 : decode c_L_law 534 = .ok (.iadd, 1) := by decide +kernel
theorem d_L_law_535 : decode c_L_law 535 = .ok (.iaload, 1) := by decide +kernel
theorem d_L_law_536 : decode c_L_law 536 = .ok (.aload_n 0, 1) := by decide +kernel
theorem d_L_law_537 : decode c_L_law 537 = .ok (.iload_n 3, 1) := by decide +kernel
theorem d_L_law_538 : decode c_L_law 538 = .ok (.iconst 2, 1) := by decide +kernel
theorem d_L_law_539 : decode c_L_law 539 = .ok (.iadd, 1) := by decide +kernel
theorem d_L_law_540 : decode c_L_law 540 = .ok (.iaload, 1) := by decide +kernel
theorem d_L_law_541 : decode c_L_law 541 = .ok (.invokevirtual 72, 3) := by decide +kernel
theorem d_L_law_544 : decode c_L_law 544 = .ok (.if_icmp .eq 86, 3) := by decide +kernel
theorem d_L_law_547 : decode c_L_law 547 = .ok (.iconst 0, 1) := by decide +kernel
theorem d_L_law_548 : decode c_L_law 548 = .ok (.ireturn, 1) := by decide +kernel
theorem d_L_law_549 : decode c_L_law 549 = .ok (.aload_n 1, 1) := by decide +kernel
theorem d_L_law_550 : decode c_L_law 550 = .ok (.aload_n 0, 1) := by decide +kernel
theorem d_L_law_551 : decode c_L_law 551 = .ok (.iload_n 3, 1) := by decide +kernel
theorem d_L_law_552 : decode c_L_law 552 = .ok (.iconst 1, 1) := by decide +kernel
theorem d_L_law_553 : decode c_L_law 553 = .ok (.iadd, 1) := by decide +kernel
theorem d_L_law_554 : decode c_L_law 554 = .ok (.iaload, 1) := by decide +kernel
theorem d_L_law_555 : decode c_L_law 555 = .ok (.invokevirtual 73, 3) := by decide +kernel
theorem d_L_law_558 : decode c_L_law 558 = .ok (.aload_n 2, 1) := by decide +kernel
theorem d_L_law_559 : decode c_L_law 559 = .ok (.aload_n 0, 1) := by decide +kernel
theorem d_L_law_560 : decode c_L_law 560 = .ok (.iload_n 3, 1) := by decide +kernel
theorem d_L_law_561 : decode c_L_law 561 = .ok (.iconst 1, 1) := by decide +kernel
theorem d_L_law_562 : decode c_L_law 562 = .ok (.iadd, 1) := by decide +kernel
theorem d_L_law_563 : decode c_L_law 563 = .ok (.iaload, 1) := by decide +kernel
theorem d_L_law_564 : decode c_L_law 564 = .ok (.invokevirtual 77, 3) := by decide +kernel
theorem d_L_law_567 : decode c_L_law 567 = .ok (.lcmp, 1) := by decide +kernel
theorem d_L_law_568 : decode c_L_law 568 = .ok (.ifCond .eq 62, 3) := by decide +kernel
theorem d_L_law_571 : decode c_L_law 571 = .ok (.iconst 0, 1) := by decide +kernel
theorem d_L_law_572 : decode c_L_law 572 = .ok (.ireturn, 1) := by decide +kernel
theorem d_L_law_573 : decode c_L_law 573 = .ok (.aload_n 1, 1) := by decide +kernel
theorem d_L_law_574 : decode c_L_law 574 = .ok (.aload_n 0, 1) := by decide +kernel
theorem d_L_law_575 : decode c_L_law 575 = .ok (.iload_n 3, 1) := by decide +kernel
theorem d_L_law_576 : decode c_L_law 576 = .ok (.iconst 1, 1) := by decide +kernel
theorem d_L_law_577 : decode c_L_law 577 = .ok (.iadd, 1) := by decide +kernel
theorem d_L_law_578 : decode c_L_law 578 = .ok (.iaload, 1) := by decide +kernel
theorem d_L_law_579 : decode c_L_law 579 = .ok (.aload_n 0, 1) := by decide +kernel
theorem d_L_law_580 : decode c_L_law 580 = .ok (.iload_n 3, 1) := by decide +kernel
theorem d_L_law_581 : decode c_L_law 581 = .ok (.iconst 2, 1) := by decide +kernel
theorem d_L_law_582 : decode c_L_law 582 = .ok (.iadd, 1) := by decide +kernel
theorem d_L_law_583 : decode c_L_law 583 = .ok (.iaload, 1) := by decide +kernel
theorem d_L_law_584 : decode c_L_law 584 = .ok (.invokevirtual 78, 3) := by decide +kernel
theorem d_L_law_587 : decode c_L_law 587 = .ok (.aload_n 2, 1) := by decide +kernel
theorem d_L_law_588 : decode c_L_law 588 = .ok (.aload_n 0, 1) := by decide +kernel
theorem d_L_law_589 : decode c_L_law 589 = .ok (.iload_n 3, 1) := by decide +kernel
theorem d_L_law_590 : decode c_L_law 590 = .ok (.iconst 1, 1) := by decide +kernel
theorem d_L_law_591 : decode c_L_law 591 = .ok (.iadd, 1) := by decide +kernel
theorem d_L_law_592 : decode c_L_law 592 = .ok (.iaload, 1) := by decide +kernel
theorem d_L_law_593 : decode c_L_law 593 = .ok (.aload_n 0, 1) := by decide +kernel
theorem d_L_law_594 : decode c_L_law 594 = .ok (.iload_n 3, 1) := by decide +kernel
theorem d_L_law_595 : decode c_L_law 595 = .ok (.iconst 2, 1) := by decide +kernel
theorem d_L_law_596 : decode c_L_law 596 = .ok (.iadd, 1) := by decide +kernel
theorem d_L_law_597 : decode c_L_law 597 = .ok (.iaload, 1) := by decide +kernel
theorem d_L_law_598 : decode c_L_law 598 = .ok (.invokevirtual 81, 3) := by decide +kernel
theorem d_L_law_601 : decode c_L_law 601 = .ok (.lcmp, 1) := by decide +kernel
theorem d_L_law_602 : decode c_L_law 602 = .ok (.ifCond .eq 28, 3) := by decide +kernel
theorem d_L_law_605 : decode c_L_law 605 = .ok (.iconst 0, 1) := by decide +kernel
theorem d_L_law_606 : decode c_L_law 606 = .ok (.ireturn, 1) := by decide +kernel
theorem d_L_law_607 : decode c_L_law 607 = .ok (.aload_n 1, 1) := by decide +kernel
theorem d_L_law_608 : decode c_L_law 608 = .ok (.aload_n 0, 1) := by decide +kernel
theorem d_L_law_609 : decode c_L_law 609 = .ok (.iload_n 3, 1) := by decide +kernel
theorem d_L_law_610 : decode c_L_law 610 = .ok (.iconst 1, 1) := by decide +kernel
theorem d_L_law_611 : decode c_L_law 611 = .ok (.iadd, 1) := by decide +kernel
theorem d_L_law_612 : decode c_L_law 612 = .ok (.iaload, 1) := by decide +kernel
theorem d_L_law_613 : decode c_L_law 613 = .ok (.invokevirtual 82, 3) := by decide +kernel
theorem d_L_law_616 : decode c_L_law 616 = .ok (.aload_n 2, 1) := by decide +kernel
theorem d_L_law_617 : decode c_L_law 617 = .ok (.aload_n 0, 1) := by decide +kernel
theorem d_L_law_618 : decode c_L_law 618 = .ok (.iload_n 3, 1) := by decide +kernel
theorem d_L_law_619 : decode c_L_law 619 = .ok (.iconst 1, 1) := by decide +kernel
theorem d_L_law_620 : decode c_L_law 620 = .ok (.iadd, 1) := by decide +kernel
theorem d_L_law_621 : decode c_L_law 621 = .ok (.iaload, 1) := by decide +kernel
theorem d_L_law_622 : decode c_L_law 622 = .ok (.invokevirtual 85, 3) := by decide +kernel
theorem d_L_law_625 : decode c_L_law 625 = .ok (.if_icmp .eq 5, 3) := by decide +kernel
theorem d_L_law_628 : decode c_L_law 628 = .ok (.iconst 0, 1) := by decide +kernel
theorem d_L_law_629 : decode c_L_law 629 = .ok (.ireturn, 1) := by decide +kernel
theorem d_L_law_630 : decode c_L_law 630 = .ok (.iinc 3 5, 3) := by decide +kernel
theorem d_L_law_633 : decode c_L_law 633 = .ok (.goto (-615), 3) := by decide +kernel
theorem d_L_law_636 : decode c_L_law 636 = .ok (.iconst 1, 1) := by decide +kernel
theorem d_L_law_637 : decode c_L_law 637 = .ok (.ireturn, 1) := by decide +kernel
theorem d_J7_fill_0 : decode c_J7_fill 0 = .ok (.iconst 0, 1) := by decide +kernel
theorem d_J7_fill_1 : decode c_J7_fill 1 = .ok (.istore_n 2, 1) := by decide +kernel
theorem d_J7_fill_2 : decode c_J7_fill 2 = .ok (.aload_n 0, 1) := by decide +kernel
theorem d_J7_fill_3 : decode c_J7_fill 3 = .ok (.arraylength, 1) := by decide +kernel
theorem d_J7_fill_4 : decode c_J7_fill 4 = .ok (.istore_n 3, 1) := by decide +kernel
theorem d_J7_fill_5 : decode c_J7_fill 5 = .ok (.iload_n 2, 1) := by decide +kernel
theorem d_J7_fill_6 : decode c_J7_fill 6 = .ok (.iload_n 3, 1) := by decide +kernel
theorem d_J7_fill_7 : decode c_J7_fill 7 = .ok (.if_icmp .ge 13, 3) := by decide +kernel
theorem d_J7_fill_10 : decode c_J7_fill 10 = .ok (.aload_n 0, 1) := by decide +kernel
theorem d_J7_fill_11 : decode c_J7_fill 11 = .ok (.iload_n 2, 1) := by decide +kernel
theorem d_J7_fill_12 : decode c_J7_fill 12 = .ok (.iload_n 1, 1) := by decide +kernel
theorem d_J7_fill_13 : decode c_J7_fill 13 = .ok (.iastore, 1) := by decide +kernel
theorem d_J7_fill_14 : decode c_J7_fill 14 = .ok (.iinc 2 1, 3) := by decide +kernel
theorem d_J7_fill_17 : decode c_J7_fill 17 = .ok (.goto (-12), 3) := by decide +kernel
theorem d_J7_fill_20 : decode c_J7_fill 20 = .ok (.return_, 1) := by decide +kernel
end
section
abbrev rm_X6_within : Room := { frames := 0, cells := 0, slots := 0, locals := 0 }
def vc_X6_within_0 (x0 : Int32) (x1 : Int32) (I : mm_I) (L : mm_L) (Q : Int32 → mm_I → mm_L → Prop) : Prop :=
  (x0 < 0 → Q 0 I L) ∧ (¬ x0 < 0 → (x1 ≤ x0 → Q 0 I L) ∧ (¬ x1 ≤ x0 → Q 1 I L))
set_option maxHeartbeats 4000000 in
set_option maxRecDepth 100000 in
theorem w_X6_within_0 {p : Program} {l : Launch} {e : Env} {s : State} {m : MethodId} {args : Array Value} {below : List Frame} {meth : Method} {c : Code} {G : mm_G} (hcx : mm_cx c_X6_within (some .boolean) 2 RX6 G p s m args meth c) (x0 : Int32) (x1 : Int32) (I : mm_I) (L : mm_L) (Q : Int32 → mm_I → mm_L → Prop)  (hv : vc_X6_within_0 x0 x1 I L Q) {H : Heap} {locs : List Loc} (hP : mm_PW G I L H) (hD : mm_DW G I L) (hS : va_S G.2.2.2.1 s.heap H locs) {ls : Array Slot} (hl : lv_has ls 2 [(0, .int x0), (1, .int x1)]) : W p l e (headSpec w_X6_within rm_X6_within).room s m args below meth c H locs 0 0 (MQ below (mm_qi G Q) args s 0 0 G.2.2.2.1) (F0 m 0 ls []) := by
  obtain ⟨hx, hb, hr, hlocks, hml, hown, hg, hK, hC⟩ := id hcx
  unfold vc_X6_within_0 at hv
  refine lv_iload_n hx hb d_X6_within_0 rfl (lv_at hl 0 rfl) ?_
  refine lv_if_lt (tgt := 13) hx hb d_X6_within_1 (by decide) (fun hc => ?_) (fun hc => ?_)
  · have hv := hv.1 hc
    refine lv_iconst (v := 0) hx hb d_X6_within_13 (by decide) ?_
    exact W.zret (v := 0) (ty := .boolean) hx hb hr (by decide) (fun t ht hW => ⟨⟨0, (I, L), rfl, hv, mm_mv ht hP⟩, hS.F ht⟩) hS.2.2 d_X6_within_14
  · have hv := hv.2 hc
    refine lv_iload_n hx hb d_X6_within_4 rfl (lv_at hl 0 rfl) ?_
    refine lv_iload_n hx hb d_X6_within_5 rfl (lv_at hl 1 rfl) ?_
    refine lv_icmp_ge (tgt := 13) hx hb d_X6_within_6 (by decide) (fun hc => ?_) (fun hc => ?_)
    · have hv := hv.1 hc
      refine lv_iconst (v := 0) hx hb d_X6_within_13 (by decide) ?_
      exact W.zret (v := 0) (ty := .boolean) hx hb hr (by decide) (fun t ht hW => ⟨⟨0, (I, L), rfl, hv, mm_mv ht hP⟩, hS.F ht⟩) hS.2.2 d_X6_within_14
    · have hv := hv.2 hc
      refine lv_iconst (v := 1) hx hb d_X6_within_9 (by decide) ?_
      refine lv_goto (tgt := 14) hx hb d_X6_within_10 (by decide) ?_
      exact W.zret (v := 1) (ty := .boolean) hx hb hr (by decide) (fun t ht hW => ⟨⟨1, (I, L), rfl, hv, mm_mv ht hP⟩, hS.F ht⟩) hS.2.2 d_X6_within_14
abbrev vc_X6_within (x0 : Int32) (x1 : Int32) (I : mm_I) (L : mm_L) (Q : Int32 → mm_I → mm_L → Prop) : Prop := vc_X6_within_0 x0 x1 I L Q
set_option maxHeartbeats 4000000 in
set_option maxRecDepth 100000 in
theorem m_X6_within (l : Launch) (G : mm_G) (x0 : Int32) (x1 : Int32) (I : mm_I) (L : mm_L) (Q : Int32 → mm_I → mm_L → Prop)  (hv : vc_X6_within x0 x1 I L Q) : Met l y_X6_within w_X6_within rm_X6_within (mm_pre G [.int x0, .int x1] I L) (mm_qi G Q) 0 0 G.2.2.2.1 := by
  refine Met.ofW (cc := c_X6_within) (maxL := 2) (ret := (some .boolean)) (by decide) rfl ?_
  intro p e s m args below meth c s₁ B hml hw
  obtain ⟨rfl, hP, hK, hD, hC⟩ := hw
  have hts := atoms_spec (ws := w_X6_within) B.pre
  have hown : s.vm.findClass RX6 = some m.cls := findClass_of_methodNamed B.named
  have hl := lv_entry ([.int x0, .int x1]) (n := 2) (Nat.le_of_ble_eq_true rfl)
  rw [lg_entry_eq]
  generalize (lg_sl ([.int x0, .int x1]) ++ List.replicate (2 - (lg_sl ([.int x0, .int x1])).length) Slot.unset).toArray = ls at hl ⊢
  have hl : lv_has ls 2 [(0, .int x0), (1, .int x1)] := hl
  exact w_X6_within_0 ⟨B.exec, B.bytes, B.returns, B.notSynchronized, hml, hown, fun w h => hts w (List.mem_cons_of_mem _ h), hK, hC⟩ x0 x1 I L Q  hv hP hD va_S.rf hl
abbrev rm_X0_has : Room := { frames := 1, cells := 0, slots := 0, locals := 21 }
def vc_X0_has_0 (x1 : Int32) (I : mm_I) (L : mm_L) (Q : Int32 → mm_I → mm_L → Prop) : Prop :=
  vc_X6_within x1 (I 2 7) I L (fun r3 I1 L2 => zb r3 ∧ Q r3 I1 L2)
set_option maxHeartbeats 4000000 in
set_option maxRecDepth 100000 in
theorem w_X0_has_0 {p : Program} {l : Launch} {e : Env} {s : State} {m : MethodId} {args : Array Value} {below : List Frame} {meth : Method} {c : Code} {G : mm_G} (hcx : mm_cx c_X0_has (some .boolean) 2 RX0 G p s m args meth c) (x1 : Int32) (I : mm_I) (L : mm_L) (Q : Int32 → mm_I → mm_L → Prop)  (hv : vc_X0_has_0 x1 I L Q) {H : Heap} {locs : List Loc} (hP : mm_PW G I L H) (hD : mm_DW G I L) (hS : va_S G.2.2.2.1 s.heap H locs) {ls : Array Slot} (hl : lv_has ls 2 [(0, .ref (G.2.2.1 2)), (1, .int x1)]) : W p l e (headSpec w_X0_has rm_X0_has).room s m args below meth c H locs 0 0 (MQ below (mm_qi G Q) args s 0 0 G.2.2.2.1) (F0 m 0 ls []) := by
  obtain ⟨hx, hb, hr, hlocks, hml, hown, hg, hK, hC⟩ := id hcx
  unfold vc_X0_has_0 at hv
  refine lv_iload_n hx hb d_X0_has_0 rfl (lv_at hl 1 rfl) ?_
  refine lv_aload_n hx hb d_X0_has_1 rfl (lv_at hl 0 rfl) ?_
  refine mm_gi (D := G.1) (C := RX0) (T := TX0) (N0 := 8) hx hb hg in_X0 hown hK hP (t := 2) (by decide) rfl rfl 7 (by decide) (hg _ k_0) (fun _ h9 => h9) rfl d_X0_has_2 ?_
  refine va_calli (va_runSN (As := [.int x1, .int (I 2 7)]) (rest := []) ⟨hx, hb, hml, hown, hg⟩ (m_X6_within l G x1 (I 2 7) I L _  hv) ⟨va_cnB 2 hg (mm_g1 kc_X6_within mm_GW_self) rfl rfl rfl (nw_4 hC.2.2) (hg _ k_1) (by decide +kernel) ⟨Nat.le_of_ble_eq_true rfl, Nat.le_of_ble_eq_true rfl⟩, hg _ k_2, trivial⟩ ⟨mm_blind, fun U hU hW => mm_call hP hK hD hC hU hS hW⟩ rfl rfl hl.1 rfl (lv_room (Nat.le_of_ble_eq_true rfl)) d_X0_has_5 ⟨Nat.zero_le _, Nat.zero_le _⟩) hS (fun q _ h => h) (fun q h => h) (fun r3 u t H locs ht hvm hv hP hz1 hk1 hS => ?_)
  obtain ⟨I1, L2⟩ := u
  dsimp only at hv hP
  rw [ht] at hP
  have hD : mm_DW G I1 L2 := mm_D_any hD
  exact W.zret (v := r3) (ty := .boolean) hx hb hr (zb_n hv.1) (fun t ht hW => ⟨⟨r3, (I1, L2), rfl, hv.2, mm_mv ht hP⟩, hS.F ht⟩) hS.2.2 d_X0_has_8
abbrev vc_X0_has (x1 : Int32) (I : mm_I) (L : mm_L) (Q : Int32 → mm_I → mm_L → Prop) : Prop := vc_X0_has_0 x1 I L Q
set_option maxHeartbeats 4000000 in
set_option maxRecDepth 100000 in
theorem m_X0_has (l : Launch) (G : mm_G) (x1 : Int32) (I : mm_I) (L : mm_L) (Q : Int32 → mm_I → mm_L → Prop)  (hv : vc_X0_has x1 I L Q) : Met l y_X0_has w_X0_has rm_X0_has (mm_pre G [.ref (G.2.2.1 2), .int x1] I L) (mm_qi G Q) 0 0 G.2.2.2.1 := by
  refine Met.ofW (cc := c_X0_has) (maxL := 2) (ret := (some .boolean)) (by decide) rfl ?_
  intro p e s m args below meth c s₁ B hml hw
  obtain ⟨rfl, hP, hK, hD, hC⟩ := hw
  have hts := atoms_spec (ws := w_X0_has) B.pre
  have hown : s.vm.findClass RX0 = some m.cls := findClass_of_methodNamed B.named
  have hl := lv_entry ([.ref (G.2.2.1 2), .int x1]) (n := 2) (Nat.le_of_ble_eq_true rfl)
  rw [lg_entry_eq]
  generalize (lg_sl ([.ref (G.2.2.1 2), .int x1]) ++ List.replicate (2 - (lg_sl ([.ref (G.2.2.1 2), .int x1])).length) Slot.unset).toArray = ls at hl ⊢
  have hl : lv_has ls 2 [(0, .ref (G.2.2.1 2)), (1, .int x1)] := hl
  exact w_X0_has_0 ⟨B.exec, B.bytes, B.returns, B.notSynchronized, hml, hown, fun w h => hts w (List.mem_cons_of_mem _ h), hK, hC⟩ x1 I L Q  hv hP hD va_S.rf hl
abbrev rm_X0_firstFits : Room := { frames := 2, cells := 0, slots := 0, locals := 42 }
def vc_X0_firstFits_145 (x2 : Int32) (I : mm_I) (L : mm_L) (Q : Int32 → mm_I → mm_L → Prop) : Prop :=
  vc_X0_has x2 I L (fun r21 I19 L20 => zb r21 ∧ Q r21 I19 L20)
def vc_X0_firstFits_0 (x1 : Int32) (x2 : Int32) (I : mm_I) (L : mm_L) (Q : Int32 → mm_I → mm_L → Prop) : Prop :=
  ((x1.toInt < 0 ∨ 20 ≤ x1.toInt) → vc_X0_firstFits_145 x2 I L Q) ∧ (x1 = 0 → Q 1 I L) ∧ (x1 = 1 → vc_X6_within x2 8 I L (fun r6 I4 L5 => zb r6 ∧ Q r6 I4 L5)) ∧ (x1 = 2 → vc_X6_within x2 8 I L (fun r9 I7 L8 => zb r9 ∧ Q r9 I7 L8)) ∧ (x1 = 3 → vc_X6_within x2 2 I L (fun r12 I10 L11 => zb r12 ∧ Q r12 I10 L11)) ∧ (x1 = 4 → vc_X0_firstFits_145 x2 I L Q) ∧ (x1 = 5 → vc_X0_firstFits_145 x2 I L Q) ∧ (x1 = 6 → vc_X0_firstFits_145 x2 I L Q) ∧ (x1 = 7 → vc_X0_firstFits_145 x2 I L Q) ∧ (x1 = 8 → vc_X0_firstFits_145 x2 I L Q) ∧ (x1 = 9 → vc_X0_firstFits_145 x2 I L Q) ∧ (x1 = 10 → vc_X0_firstFits_145 x2 I L Q) ∧ (x1 = 11 → vc_X0_firstFits_145 x2 I L Q) ∧ (x1 = 12 → vc_X0_firstFits_145 x2 I L Q) ∧ (x1 = 13 → vc_X0_firstFits_145 x2 I L Q) ∧ (x1 = 14 → vc_X0_firstFits_145 x2 I L Q) ∧ (x1 = 15 → vc_X0_firstFits_145 x2 I L Q) ∧ (x1 = 16 → Q 1 I L) ∧ (x1 = 17 → (x2 = (-1) → Q 1 I L) ∧ (¬ x2 = (-1) → vc_X0_has x2 I L (fun r15 I13 L14 => (r15 = 0 → Q 0 I13 L14) ∧ (¬ r15 = 0 → Q 1 I13 L14)))) ∧ (x1 = 18 → vc_X0_firstFits_145 x2 I L Q) ∧ (x1 = 19 → vc_X6_within x2 2 I L (fun r18 I16 L17 => zb r18 ∧ Q r18 I16 L17))
set_option maxHeartbeats 4000000 in
set_option maxRecDepth 100000 in
theorem w_X0_firstFits_145 {p : Program} {l : Launch} {e : Env} {s : State} {m : MethodId} {args : Array Value} {below : List Frame} {meth : Method} {c : Code} {G : mm_G} (hcx : mm_cx c_X0_firstFits (some .boolean) 3 RX0 G p s m args meth c) (x2 : Int32) (I : mm_I) (L : mm_L) (Q : Int32 → mm_I → mm_L → Prop)  (hv : vc_X0_firstFits_145 x2 I L Q) {H : Heap} {locs : List Loc} (hP : mm_PW G I L H) (hD : mm_DW G I L) (hS : va_S G.2.2.2.1 s.heap H locs) {ls : Array Slot} (hl : lv_has ls 3 [(0, .ref (G.2.2.1 2)), (2, .int x2)]) : W p l e (headSpec w_X0_firstFits rm_X0_firstFits).room s m args below meth c H locs 0 0 (MQ below (mm_qi G Q) args s 0 0 G.2.2.2.1) (F0 m 145 ls []) := by
  obtain ⟨hx, hb, hr, hlocks, hml, hown, hg, hK, hC⟩ := id hcx
  unfold vc_X0_firstFits_145 at hv
  refine lv_aload_n hx hb d_X0_firstFits_145 rfl (lv_at hl 0 rfl) ?_
  refine lv_iload_n hx hb d_X0_firstFits_146 rfl (lv_at hl 1 rfl) ?_
  refine va_calli (va_runV (As := [.int x2]) (rest := []) ⟨hx, hb, hml, hown, hg⟩ (m_X0_has l G x2 I L _  hv) (cwV 1 hg (mm_gV k_3 k_4 k_5 k_6 kc_X0_has) rfl rfl rfl (by decide +kernel) ⟨Nat.le_of_ble_eq_true rfl, Nat.le_of_ble_eq_true rfl⟩) ⟨mm_blind, mm_recv hK hP (t := 2) (by decide) rfl rfl, fun U hU hW => mm_call hP hK hD hC hU hS hW⟩ rfl rfl hl.1 rfl (lv_room (Nat.le_of_ble_eq_true rfl)) d_X0_firstFits_147 ⟨Nat.zero_le _, Nat.zero_le _⟩) hS (fun q _ h => h) (fun q h => h) (fun r21 u t H locs ht hvm hv hP hz1 hk1 hS => ?_)
  obtain ⟨I19, L20⟩ := u
  dsimp only at hv hP
  rw [ht] at hP
  have hD : mm_DW G I19 L20 := mm_D_any hD
  exact W.zret (v := r21) (ty := .boolean) hx hb hr (zb_n hv.1) (fun t ht hW => ⟨⟨r21, (I19, L20), rfl, hv.2, mm_mv ht hP⟩, hS.F ht⟩) hS.2.2 d_X0_firstFits_150
set_option maxHeartbeats 4000000 in
set_option maxRecDepth 100000 in
theorem w_X0_firstFits_0 {p : Program} {l : Launch} {e : Env} {s : State} {m : MethodId} {args : Array Value} {below : List Frame} {meth : Method} {c : Code} {G : mm_G} (hcx : mm_cx c_X0_firstFits (some .boolean) 3 RX0 G p s m args meth c) (x1 : Int32) (x2 : Int32) (I : mm_I) (L : mm_L) (Q : Int32 → mm_I → mm_L → Prop)  (hv : vc_X0_firstFits_0 x1 x2 I L Q) {H : Heap} {locs : List Loc} (hP : mm_PW G I L H) (hD : mm_DW G I L) (hS : va_S G.2.2.2.1 s.heap H locs) {ls : Array Slot} (hl : lv_has ls 3 [(0, .ref (G.2.2.1 2)), (1, .int x1), (2, .int x2)]) : W p l e (headSpec w_X0_firstFits rm_X0_firstFits).room s m args below meth c H locs 0 0 (MQ below (mm_qi G Q) args s 0 0 G.2.2.2.1) (F0 m 0 ls []) := by
  obtain ⟨hx, hb, hr, hlocks, hml, hown, hg, hK, hC⟩ := id hcx
  unfold vc_X0_firstFits_0 at hv
  refine lv_iload_n hx hb d_X0_firstFits_0 rfl (lv_at hl 1 rfl) ?_
  obtain h0 | ⟨k9, hk9, he⟩ := mm_sw x1 0 20
  · have hv := hv.1 h0
    refine lv_tableOut (tgt := 145) hx hb d_X0_firstFits_1 (by omega) (by decide) ?_
    exact w_X0_firstFits_145 hcx x2 I L Q  hv hP hD hS (lv_sub hl [0, 2] rfl)
  obtain rfl | rfl | rfl | rfl | rfl | rfl | rfl | rfl | rfl | rfl | rfl | rfl | rfl | rfl | rfl | rfl | rfl | rfl | rfl | rfl : k9 = 0 ∨ k9 = 1 ∨ k9 = 2 ∨ k9 = 3 ∨ k9 = 4 ∨ k9 = 5 ∨ k9 = 6 ∨ k9 = 7 ∨ k9 = 8 ∨ k9 = 9 ∨ k9 = 10 ∨ k9 = 11 ∨ k9 = 12 ∨ k9 = 13 ∨ k9 = 14 ∨ k9 = 15 ∨ k9 = 16 ∨ k9 = 17 ∨ k9 = 18 ∨ k9 = 19 := by omega
  · have he : x1 = 0 := he
    have hv := hv.2.1 he
    refine lv_tableIn (tgt := 96) hx hb d_X0_firstFits_1 (by rw [he]; decide) (by rw [he]; decide) (by rw [he]; rfl) (by decide) ?_
    refine lv_iconst (v := 1) hx hb d_X0_firstFits_96 (by decide) ?_
    exact W.zret (v := 1) (ty := .boolean) hx hb hr (by decide) (fun t ht hW => ⟨⟨1, (I, L), rfl, hv, mm_mv ht hP⟩, hS.F ht⟩) hS.2.2 d_X0_firstFits_97
  · have he : x1 = 1 := he
    have hv := hv.2.2.1 he
    refine lv_tableIn (tgt := 100) hx hb d_X0_firstFits_1 (by rw [he]; decide) (by rw [he]; decide) (by rw [he]; rfl) (by decide) ?_
    refine lv_iload_n hx hb d_X0_firstFits_100 rfl (lv_at hl 2 rfl) ?_
    refine lv_bipush (v := 8) hx hb d_X0_firstFits_101 (by decide) ?_
    refine va_calli (va_runSN (As := [.int x2, .int 8]) (rest := []) ⟨hx, hb, hml, hown, hg⟩ (m_X6_within l G x2 8 I L _  hv) ⟨va_cnB 2 hg (mm_g1 kc_X6_within mm_GW_self) rfl rfl rfl (nw_4 hC.2.2) (hg _ k_1) (by decide +kernel) ⟨Nat.le_of_ble_eq_true rfl, Nat.le_of_ble_eq_true rfl⟩, hg _ k_2, trivial⟩ ⟨mm_blind, fun U hU hW => mm_call hP hK hD hC hU hS hW⟩ rfl rfl hl.1 rfl (lv_room (Nat.le_of_ble_eq_true rfl)) d_X0_firstFits_103 ⟨Nat.zero_le _, Nat.zero_le _⟩) hS (fun q _ h => h) (fun q h => h) (fun r6 u t H locs ht hvm hv hP hz1 hk1 hS => ?_)
    obtain ⟨I4, L5⟩ := u
    dsimp only at hv hP
    rw [ht] at hP
    have hD : mm_DW G I4 L5 := mm_D_any hD
    exact W.zret (v := r6) (ty := .boolean) hx hb hr (zb_n hv.1) (fun t ht hW => ⟨⟨r6, (I4, L5), rfl, hv.2, mm_mv ht hP⟩, hS.F ht⟩) hS.2.2 d_X0_firstFits_106
  · have he : x1 = 2 := he
    have hv := hv.2.2.2.1 he
    refine lv_tableIn (tgt := 107) hx hb d_X0_firstFits_1 (by rw [he]; decide) (by rw [he]; decide) (by rw [he]; rfl) (by decide) ?_
    refine lv_iload_n hx hb d_X0_firstFits_107 rfl (lv_at hl 2 rfl) ?_
    refine lv_bipush (v := 8) hx hb d_X0_firstFits_108 (by decide) ?_
    refine va_calli (va_runSN (As := [.int x2, .int 8]) (rest := []) ⟨hx, hb, hml, hown, hg⟩ (m_X6_within l G x2 8 I L _  hv) ⟨va_cnB 2 hg (mm_g1 kc_X6_within mm_GW_self) rfl rfl rfl (nw_4 hC.2.2) (hg _ k_1) (by decide +kernel) ⟨Nat.le_of_ble_eq_true rfl, Nat.le_of_ble_eq_true rfl⟩, hg _ k_2, trivial⟩ ⟨mm_blind, fun U hU hW => mm_call hP hK hD hC hU hS hW⟩ rfl rfl hl.1 rfl (lv_room (Nat.le_of_ble_eq_true rfl)) d_X0_firstFits_110 ⟨Nat.zero_le _, Nat.zero_le _⟩) hS (fun q _ h => h) (fun q h => h) (fun r9 u t H locs ht hvm hv hP hz1 hk1 hS => ?_)
    obtain ⟨I7, L8⟩ := u
    dsimp only at hv hP
    rw [ht] at hP
    have hD : mm_DW G I7 L8 := mm_D_any hD
    exact W.zret (v := r9) (ty := .boolean) hx hb hr (zb_n hv.1) (fun t ht hW => ⟨⟨r9, (I7, L8), rfl, hv.2, mm_mv ht hP⟩, hS.F ht⟩) hS.2.2 d_X0_firstFits_113
  · have he : x1 = 3 := he
    have hv := hv.2.2.2.2.1 he
    refine lv_tableIn (tgt := 114) hx hb d_X0_firstFits_1 (by rw [he]; decide) (by rw [he]; decide) (by rw [he]; rfl) (by decide) ?_
    refine lv_iload_n hx hb d_X0_firstFits_114 rfl (lv_at hl 2 rfl) ?_
    refine lv_iconst (v := 2) hx hb d_X0_firstFits_115 (by decide) ?_
    refine va_calli (va_runSN (As := [.int x2, .int 2]) (rest := []) ⟨hx, hb, hml, hown, hg⟩ (m_X6_within l G x2 2 I L _  hv) ⟨va_cnB 2 hg (mm_g1 kc_X6_within mm_GW_self) rfl rfl rfl (nw_4 hC.2.2) (hg _ k_1) (by decide +kernel) ⟨Nat.le_of_ble_eq_true rfl, Nat.le_of_ble_eq_true rfl⟩, hg _ k_2, trivial⟩ ⟨mm_blind, fun U hU hW => mm_call hP hK hD hC hU hS hW⟩ rfl rfl hl.1 rfl (lv_room (Nat.le_of_ble_eq_true rfl)) d_X0_firstFits_116 ⟨Nat.zero_le _, Nat.zero_le _⟩) hS (fun q _ h => h) (fun q h => h) (fun r12 u t H locs ht hvm hv hP hz1 hk1 hS => ?_)
    obtain ⟨I10, L11⟩ := u
    dsimp only at hv hP
    rw [ht] at hP
    have hD : mm_DW G I10 L11 := mm_D_any hD
    exact W.zret (v := r12) (ty := .boolean) hx hb hr (zb_n hv.1) (fun t ht hW => ⟨⟨r12, (I10, L11), rfl, hv.2, mm_mv ht hP⟩, hS.F ht⟩) hS.2.2 d_X0_firstFits_119
  · have he : x1 = 4 := he
    have hv := hv.2.2.2.2.2.1 he
    refine lv_tableIn (tgt := 145) hx hb d_X0_firstFits_1 (by rw [he]; decide) (by rw [he]; decide) (by rw [he]; rfl) (by decide) ?_
    exact w_X0_firstFits_145 hcx x2 I L Q  hv hP hD hS (lv_sub hl [0, 2] rfl)
  · have he : x1 = 5 := he
    have hv := hv.2.2.2.2.2.2.1 he
    refine lv_tableIn (tgt := 145) hx hb d_X0_firstFits_1 (by rw [he]; decide) (by rw [he]; decide) (by rw [he]; rfl) (by decide) ?_
    exact w_X0_firstFits_145 hcx x2 I L Q  hv hP hD hS (lv_sub hl [0, 2] rfl)
  · have he : x1 = 6 := he
    have hv := hv.2.2.2.2.2.2.2.1 he
    refine lv_tableIn (tgt := 145) hx hb d_X0_firstFits_1 (by rw [he]; decide) (by rw [he]; decide) (by rw [he]; rfl) (by decide) ?_
    exact w_X0_firstFits_145 hcx x2 I L Q  hv hP hD hS (lv_sub hl [0, 2] rfl)
  · have he : x1 = 7 := he
    have hv := hv.2.2.2.2.2.2.2.2.1 he
    refine lv_tableIn (tgt := 145) hx hb d_X0_firstFits_1 (by rw [he]; decide) (by rw [he]; decide) (by rw [he]; rfl) (by decide) ?_
    exact w_X0_firstFits_145 hcx x2 I L Q  hv hP hD hS (lv_sub hl [0, 2] rfl)
  · have he : x1 = 8 := he
    have hv := hv.2.2.2.2.2.2.2.2.2.1 he
    refine lv_tableIn (tgt := 145) hx hb d_X0_firstFits_1 (by rw [he]; decide) (by rw [he]; decide) (by rw [he]; rfl) (by decide) ?_
    exact w_X0_firstFits_145 hcx x2 I L Q  hv hP hD hS (lv_sub hl [0, 2] rfl)
  · have he : x1 = 9 := he
    have hv := hv.2.2.2.2.2.2.2.2.2.2.1 he
    refine lv_tableIn (tgt := 145) hx hb d_X0_firstFits_1 (by rw [he]; decide) (by rw [he]; decide) (by rw [he]; rfl) (by decide) ?_
    exact w_X0_firstFits_145 hcx x2 I L Q  hv hP hD hS (lv_sub hl [0, 2] rfl)
  · have he : x1 = 10 := he
    have hv := hv.2.2.2.2.2.2.2.2.2.2.2.1 he
    refine lv_tableIn (tgt := 145) hx hb d_X0_firstFits_1 (by rw [he]; decide) (by rw [he]; decide) (by rw [he]; rfl) (by decide) ?_
    exact w_X0_firstFits_145 hcx x2 I L Q  hv hP hD hS (lv_sub hl [0, 2] rfl)
  · have he : x1 = 11 := he
    have hv := hv.2.2.2.2.2.2.2.2.2.2.2.2.1 he
    refine lv_tableIn (tgt := 145) hx hb d_X0_firstFits_1 (by rw [he]; decide) (by rw [he]; decide) (by rw [he]; rfl) (by decide) ?_
    exact w_X0_firstFits_145 hcx x2 I L Q  hv hP hD hS (lv_sub hl [0, 2] rfl)
  · have he : x1 = 12 := he
    have hv := hv.2.2.2.2.2.2.2.2.2.2.2.2.2.1 he
    refine lv_tableIn (tgt := 145) hx hb d_X0_firstFits_1 (by rw [he]; decide) (by rw [he]; decide) (by rw [he]; rfl) (by decide) ?_
    exact w_X0_firstFits_145 hcx x2 I L Q  hv hP hD hS (lv_sub hl [0, 2] rfl)
  · have he : x1 = 13 := he
    have hv := hv.2.2.2.2.2.2.2.2.2.2.2.2.2.2.1 he
    refine lv_tableIn (tgt := 145) hx hb d_X0_firstFits_1 (by rw [he]; decide) (by rw [he]; decide) (by rw [he]; rfl) (by decide) ?_
    exact w_X0_firstFits_145 hcx x2 I L Q  hv hP hD hS (lv_sub hl [0, 2] rfl)
  · have he : x1 = 14 := he
    have hv := hv.2.2.2.2.2.2.2.2.2.2.2.2.2.2.2.1 he
    refine lv_tableIn (tgt := 145) hx hb d_X0_firstFits_1 (by rw [he]; decide) (by rw [he]; decide) (by rw [he]; rfl) (by decide) ?_
    exact w_X0_firstFits_145 hcx x2 I L Q  hv hP hD hS (lv_sub hl [0, 2] rfl)
  · have he : x1 = 15 := he
    have hv := hv.2.2.2.2.2.2.2.2.2.2.2.2.2.2.2.2.1 he
    refine lv_tableIn (tgt := 145) hx hb d_X0_firstFits_1 (by rw [he]; decide) (by rw [he]; decide) (by rw [he]; rfl) (by decide) ?_
    exact w_X0_firstFits_145 hcx x2 I L Q  hv hP hD hS (lv_sub hl [0, 2] rfl)
  · have he : x1 = 16 := he
    have hv := hv.2.2.2.2.2.2.2.2.2.2.2.2.2.2.2.2.2.1 he
    refine lv_tableIn (tgt := 98) hx hb d_X0_firstFits_1 (by rw [he]; decide) (by rw [he]; decide) (by rw [he]; rfl) (by decide) ?_
    refine lv_iconst (v := 1) hx hb d_X0_firstFits_98 (by decide) ?_
    exact W.zret (v := 1) (ty := .boolean) hx hb hr (by decide) (fun t ht hW => ⟨⟨1, (I, L), rfl, hv, mm_mv ht hP⟩, hS.F ht⟩) hS.2.2 d_X0_firstFits_99
  · have he : x1 = 17 := he
    have hv := hv.2.2.2.2.2.2.2.2.2.2.2.2.2.2.2.2.2.2.1 he
    refine lv_tableIn (tgt := 126) hx hb d_X0_firstFits_1 (by rw [he]; decide) (by rw [he]; decide) (by rw [he]; rfl) (by decide) ?_
    refine lv_iload_n hx hb d_X0_firstFits_126 rfl (lv_at hl 2 rfl) ?_
    refine lv_iconst (v := (-1)) hx hb d_X0_firstFits_127 (by decide) ?_
    refine lv_icmp_eq (tgt := 139) hx hb d_X0_firstFits_128 (by decide) (fun hc => ?_) (fun hc => ?_)
    · have hv := hv.1 hc
      refine lv_iconst (v := 1) hx hb d_X0_firstFits_139 (by decide) ?_
      refine lv_goto (tgt := 144) hx hb d_X0_firstFits_140 (by decide) ?_
      exact W.zret (v := 1) (ty := .boolean) hx hb hr (by decide) (fun t ht hW => ⟨⟨1, (I, L), rfl, hv, mm_mv ht hP⟩, hS.F ht⟩) hS.2.2 d_X0_firstFits_144
    · have hv := hv.2 hc
      refine lv_aload_n hx hb d_X0_firstFits_131 rfl (lv_at hl 0 rfl) ?_
      refine lv_iload_n hx hb d_X0_firstFits_132 rfl (lv_at hl 2 rfl) ?_
      refine va_calli (va_runV (As := [.int x2]) (rest := []) ⟨hx, hb, hml, hown, hg⟩ (m_X0_has l G x2 I L _  hv) (cwV 1 hg (mm_gV k_3 k_4 k_5 k_6 kc_X0_has) rfl rfl rfl (by decide +kernel) ⟨Nat.le_of_ble_eq_true rfl, Nat.le_of_ble_eq_true rfl⟩) ⟨mm_blind, mm_recv hK hP (t := 2) (by decide) rfl rfl, fun U hU hW => mm_call hP hK hD hC hU hS hW⟩ rfl rfl hl.1 rfl (lv_room (Nat.le_of_ble_eq_true rfl)) d_X0_firstFits_133 ⟨Nat.zero_le _, Nat.zero_le _⟩) hS (fun q _ h => h) (fun q h => h) (fun r15 u t H locs ht hvm hv hP hz1 hk1 hS => ?_)
      obtain ⟨I13, L14⟩ := u
      dsimp only at hv hP
      rw [ht] at hP
      have hD : mm_DW G I13 L14 := mm_D_any hD
      refine lv_if_eq (tgt := 143) hx hb d_X0_firstFits_136 (by decide) (fun hc => ?_) (fun hc => ?_)
      · have hv := hv.1 hc
        refine lv_iconst (v := 0) hx hb d_X0_firstFits_143 (by decide) ?_
        exact W.zret (v := 0) (ty := .boolean) hx hb hr (by decide) (fun t ht hW => ⟨⟨0, (I13, L14), rfl, hv, mm_mv ht hP⟩, hS.F ht⟩) hS.2.2 d_X0_firstFits_144
      · have hv := hv.2 hc
        refine lv_iconst (v := 1) hx hb d_X0_firstFits_139 (by decide) ?_
        refine lv_goto (tgt := 144) hx hb d_X0_firstFits_140 (by decide) ?_
        exact W.zret (v := 1) (ty := .boolean) hx hb hr (by decide) (fun t ht hW => ⟨⟨1, (I13, L14), rfl, hv, mm_mv ht hP⟩, hS.F ht⟩) hS.2.2 d_X0_firstFits_144
  · have he : x1 = 18 := he
    have hv := hv.2.2.2.2.2.2.2.2.2.2.2.2.2.2.2.2.2.2.2.1 he
    refine lv_tableIn (tgt := 145) hx hb d_X0_firstFits_1 (by rw [he]; decide) (by rw [he]; decide) (by rw [he]; rfl) (by decide) ?_
    exact w_X0_firstFits_145 hcx x2 I L Q  hv hP hD hS (lv_sub hl [0, 2] rfl)
  · have he : x1 = 19 := he
    have hv := hv.2.2.2.2.2.2.2.2.2.2.2.2.2.2.2.2.2.2.2.2 he
    refine lv_tableIn (tgt := 120) hx hb d_X0_firstFits_1 (by rw [he]; decide) (by rw [he]; decide) (by rw [he]; rfl) (by decide) ?_
    refine lv_iload_n hx hb d_X0_firstFits_120 rfl (lv_at hl 2 rfl) ?_
    refine lv_iconst (v := 2) hx hb d_X0_firstFits_121 (by decide) ?_
    refine va_calli (va_runSN (As := [.int x2, .int 2]) (rest := []) ⟨hx, hb, hml, hown, hg⟩ (m_X6_within l G x2 2 I L _  hv) ⟨va_cnB 2 hg (mm_g1 kc_X6_within mm_GW_self) rfl rfl rfl (nw_4 hC.2.2) (hg _ k_1) (by decide +kernel) ⟨Nat.le_of_ble_eq_true rfl, Nat.le_of_ble_eq_true rfl⟩, hg _ k_2, trivial⟩ ⟨mm_blind, fun U hU hW => mm_call hP hK hD hC hU hS hW⟩ rfl rfl hl.1 rfl (lv_room (Nat.le_of_ble_eq_true rfl)) d_X0_firstFits_122 ⟨Nat.zero_le _, Nat.zero_le _⟩) hS (fun q _ h => h) (fun q h => h) (fun r18 u t H locs ht hvm hv hP hz1 hk1 hS => ?_)
    obtain ⟨I16, L17⟩ := u
    dsimp only at hv hP
    rw [ht] at hP
    have hD : mm_DW G I16 L17 := mm_D_any hD
    exact W.zret (v := r18) (ty := .boolean) hx hb hr (zb_n hv.1) (fun t ht hW => ⟨⟨r18, (I16, L17), rfl, hv.2, mm_mv ht hP⟩, hS.F ht⟩) hS.2.2 d_X0_firstFits_125
abbrev vc_X0_firstFits (x1 : Int32) (x2 : Int32) (I : mm_I) (L : mm_L) (Q : Int32 → mm_I → mm_L → Prop) : Prop := vc_X0_firstFits_0 x1 x2 I L Q
set_option maxHeartbeats 4000000 in
set_option maxRecDepth 100000 in
theorem m_X0_firstFits (l : Launch) (G : mm_G) (x1 : Int32) (x2 : Int32) (I : mm_I) (L : mm_L) (Q : Int32 → mm_I → mm_L → Prop)  (hv : vc_X0_firstFits x1 x2 I L Q) : Met l y_X0_firstFits w_X0_firstFits rm_X0_firstFits (mm_pre G [.ref (G.2.2.1 2), .int x1, .int x2] I L) (mm_qi G Q) 0 0 G.2.2.2.1 := by
  refine Met.ofW (cc := c_X0_firstFits) (maxL := 3) (ret := (some .boolean)) (by decide) rfl ?_
  intro p e s m args below meth c s₁ B hml hw
  obtain ⟨rfl, hP, hK, hD, hC⟩ := hw
  have hts := atoms_spec (ws := w_X0_firstFits) B.pre
  have hown : s.vm.findClass RX0 = some m.cls := findClass_of_methodNamed B.named
  have hl := lv_entry ([.ref (G.2.2.1 2), .int x1, .int x2]) (n := 3) (Nat.le_of_ble_eq_true rfl)
  rw [lg_entry_eq]
  generalize (lg_sl ([.ref (G.2.2.1 2), .int x1, .int x2]) ++ List.replicate (3 - (lg_sl ([.ref (G.2.2.1 2), .int x1, .int x2])).length) Slot.unset).toArray = ls at hl ⊢
  have hl : lv_has ls 3 [(0, .ref (G.2.2.1 2)), (1, .int x1), (2, .int x2)] := hl
  exact w_X0_firstFits_0 ⟨B.exec, B.bytes, B.returns, B.notSynchronized, hml, hown, fun w h => hts w (List.mem_cons_of_mem _ h), hK, hC⟩ x1 x2 I L Q  hv hP hD va_S.rf hl
abbrev rm_X0_takesNode : Room := { frames := 0, cells := 0, slots := 0, locals := 0 }
def vc_X0_takesNode_0 (x0 : Int32) (x1 : Int32) (I : mm_I) (L : mm_L) (Q : Int32 → mm_I → mm_L → Prop) : Prop :=
  vp_in x0 20 ∧ (((tb_no x0.toNatClampNeg) &&& x1) = 0 → Q 0 I L) ∧ (¬ ((tb_no x0.toNatClampNeg) &&& x1) = 0 → Q 1 I L)
set_option maxHeartbeats 4000000 in
set_option maxRecDepth 100000 in
theorem w_X0_takesNode_0 {p : Program} {l : Launch} {e : Env} {s : State} {m : MethodId} {args : Array Value} {below : List Frame} {meth : Method} {c : Code} {G : mm_G} (hcx : mm_cx c_X0_takesNode (some .boolean) 2 RX0 G p s m args meth c) (x0 : Int32) (x1 : Int32) (I : mm_I) (L : mm_L) (Q : Int32 → mm_I → mm_L → Prop)  (hv : vc_X0_takesNode_0 x0 x1 I L Q) {H : Heap} {locs : List Loc} (hP : mm_PW G I L H) (hD : mm_DW G I L) (hS : va_S G.2.2.2.1 s.heap H locs) {ls : Array Slot} (hl : lv_has ls 2 [(0, .int x0), (1, .int x1)]) : W p l e (headSpec w_X0_takesNode rm_X0_takesNode).room s m args below meth c H locs 0 0 (MQ below (mm_qi G Q) args s 0 0 G.2.2.2.1) (F0 m 0 ls []) := by
  obtain ⟨hx, hb, hr, hlocks, hml, hown, hg, hK, hC⟩ := id hcx
  unfold vc_X0_takesNode_0 at hv
  refine va_getsN hx hb hC.1 hS hown (va_Nw.use rfl (nw_5 hC.2.2)) (fun _ h9 => h9) d_X0_takesNode_0 ?_
  refine lv_iload_n hx hb d_X0_takesNode_3 rfl (lv_at hl 0 rfl) ?_
  obtain ⟨h22, hv⟩ := hv
  refine va_ti hx hb hC.2.1 hS h22 (v := .int (tb_no x0.toNatClampNeg)) rfl d_X0_takesNode_4 ?_
  refine lv_iload_n hx hb d_X0_takesNode_5 rfl (lv_at hl 1 rfl) ?_
  refine lv_iand hx hb d_X0_takesNode_6 ?_
  refine lv_if_eq (tgt := 14) hx hb d_X0_takesNode_7 (by decide) (fun hc => ?_) (fun hc => ?_)
  · have hv := hv.1 hc
    refine lv_iconst (v := 0) hx hb d_X0_takesNode_14 (by decide) ?_
    exact W.zret (v := 0) (ty := .boolean) hx hb hr (by decide) (fun t ht hW => ⟨⟨0, (I, L), rfl, hv, mm_mv ht hP⟩, hS.F ht⟩) hS.2.2 d_X0_takesNode_15
  · have hv := hv.2 hc
    refine lv_iconst (v := 1) hx hb d_X0_takesNode_10 (by decide) ?_
    refine lv_goto (tgt := 15) hx hb d_X0_takesNode_11 (by decide) ?_
    exact W.zret (v := 1) (ty := .boolean) hx hb hr (by decide) (fun t ht hW => ⟨⟨1, (I, L), rfl, hv, mm_mv ht hP⟩, hS.F ht⟩) hS.2.2 d_X0_takesNode_15
abbrev vc_X0_takesNode (x0 : Int32) (x1 : Int32) (I : mm_I) (L : mm_L) (Q : Int32 → mm_I → mm_L → Prop) : Prop := vc_X0_takesNode_0 x0 x1 I L Q
set_option maxHeartbeats 4000000 in
set_option maxRecDepth 100000 in
theorem m_X0_takesNode (l : Launch) (G : mm_G) (x0 : Int32) (x1 : Int32) (I : mm_I) (L : mm_L) (Q : Int32 → mm_I → mm_L → Prop)  (hv : vc_X0_takesNode x0 x1 I L Q) : Met l y_X0_takesNode w_X0_takesNode rm_X0_takesNode (mm_pre G [.int x0, .int x1] I L) (mm_qi G Q) 0 0 G.2.2.2.1 := by
  refine Met.ofW (cc := c_X0_takesNode) (maxL := 2) (ret := (some .boolean)) (by decide) rfl ?_
  intro p e s m args below meth c s₁ B hml hw
  obtain ⟨rfl, hP, hK, hD, hC⟩ := hw
  have hts := atoms_spec (ws := w_X0_takesNode) B.pre
  have hown : s.vm.findClass RX0 = some m.cls := findClass_of_methodNamed B.named
  have hl := lv_entry ([.int x0, .int x1]) (n := 2) (Nat.le_of_ble_eq_true rfl)
  rw [lg_entry_eq]
  generalize (lg_sl ([.int x0, .int x1]) ++ List.replicate (2 - (lg_sl ([.int x0, .int x1])).length) Slot.unset).toArray = ls at hl ⊢
  have hl : lv_has ls 2 [(0, .int x0), (1, .int x1)] := hl
  exact w_X0_takesNode_0 ⟨B.exec, B.bytes, B.returns, B.notSynchronized, hml, hown, fun w h => hts w (List.mem_cons_of_mem _ h), hK, hC⟩ x0 x1 I L Q  hv hP hD va_S.rf hl
abbrev rm_X0_operandsFit : Room := { frames := 3, cells := 0, slots := 0, locals := 64 }
def vc_X0_operandsFit_25 (x1 : Int32) (x4 : Int32) (I : mm_I) (L : mm_L) (Q : Int32 → mm_I → mm_L → Prop) : Prop :=
  vc_X0_takesNode x1 4 I L (fun r34 I32 L33 => (r34 = 0 → Q 1 I32 L33) ∧ (¬ r34 = 0 → vc_X0_has x4 I32 L33 (fun r37 I35 L36 => (r37 = 0 → Q 0 I35 L36) ∧ (¬ r37 = 0 → Q 1 I35 L36))))
def vc_X0_operandsFit_0 (x1 : Int32) (x2 : Int32) (x3 : Int32) (x4 : Int32) (I : mm_I) (L : mm_L) (Q : Int32 → mm_I → mm_L → Prop) : Prop :=
  vc_X0_firstFits x1 x2 I L (fun r25 I23 L24 => (r25 = 0 → Q 0 I23 L24) ∧ (¬ r25 = 0 → vc_X0_takesNode x1 2 I23 L24 (fun r28 I26 L27 => (r28 = 0 → vc_X0_operandsFit_25 x1 x4 I26 L27 Q) ∧ (¬ r28 = 0 → vc_X0_has x3 I26 L27 (fun r31 I29 L30 => (r31 = 0 → Q 0 I29 L30) ∧ (¬ r31 = 0 → vc_X0_operandsFit_25 x1 x4 I29 L30 Q))))))
set_option maxHeartbeats 4000000 in
set_option maxRecDepth 100000 in
theorem w_X0_operandsFit_25 {p : Program} {l : Launch} {e : Env} {s : State} {m : MethodId} {args : Array Value} {below : List Frame} {meth : Method} {c : Code} {G : mm_G} (hcx : mm_cx c_X0_operandsFit (some .boolean) 5 RX0 G p s m args meth c) (x1 : Int32) (x4 : Int32) (I : mm_I) (L : mm_L) (Q : Int32 → mm_I → mm_L → Prop)  (hv : vc_X0_operandsFit_25 x1 x4 I L Q) {H : Heap} {locs : List Loc} (hP : mm_PW G I L H) (hD : mm_DW G I L) (hS : va_S G.2.2.2.1 s.heap H locs) {ls : Array Slot} (hl : lv_has ls 5 [(0, .ref (G.2.2.1 2)), (1, .int x1), (4, .int x4)]) : W p l e (headSpec w_X0_operandsFit rm_X0_operandsFit).room s m args below meth c H locs 0 0 (MQ below (mm_qi G Q) args s 0 0 G.2.2.2.1) (F0 m 25 ls []) := by
  obtain ⟨hx, hb, hr, hlocks, hml, hown, hg, hK, hC⟩ := id hcx
  unfold vc_X0_operandsFit_25 at hv
  refine lv_iload_n hx hb d_X0_operandsFit_25 rfl (lv_at hl 1 rfl) ?_
  refine lv_iconst (v := 4) hx hb d_X0_operandsFit_26 (by decide) ?_
  refine va_calli (va_runS (As := [.int x1, .int 4]) (rest := []) ⟨hx, hb, hml, hown, hg⟩ (m_X0_takesNode l G x1 4 I L _  hv) (va_cwS 2 hg (mm_gS k_7 k_8 k_6 kc_X0_takesNode) rfl rfl rfl (by decide +kernel) ⟨Nat.le_of_ble_eq_true rfl, Nat.le_of_ble_eq_true rfl⟩) ⟨mm_blind, fun U hU hW => mm_call hP hK hD hC hU hS hW⟩ rfl rfl hl.1 rfl (lv_room (Nat.le_of_ble_eq_true rfl)) d_X0_operandsFit_27 ⟨Nat.zero_le _, Nat.zero_le _⟩) hS (fun q _ h => h) (fun q h => h) (fun r34 u t H locs ht hvm hv hP hz1 hk1 hS => ?_)
  obtain ⟨I32, L33⟩ := u
  dsimp only at hv hP
  rw [ht] at hP
  have hD : mm_DW G I32 L33 := mm_D_any hD
  refine lv_if_eq (tgt := 42) hx hb d_X0_operandsFit_30 (by decide) (fun hc => ?_) (fun hc => ?_)
  · have hv := hv.1 hc
    refine lv_iconst (v := 1) hx hb d_X0_operandsFit_42 (by decide) ?_
    refine lv_goto (tgt := 47) hx hb d_X0_operandsFit_43 (by decide) ?_
    exact W.zret (v := 1) (ty := .boolean) hx hb hr (by decide) (fun t ht hW => ⟨⟨1, (I32, L33), rfl, hv, mm_mv ht hP⟩, hS.F ht⟩) hS.2.2 d_X0_operandsFit_47
  · have hv := hv.2 hc
    refine lv_aload_n hx hb d_X0_operandsFit_33 rfl (lv_at hl 0 rfl) ?_
    refine lv_iload hx hb d_X0_operandsFit_34 (lv_at hl 2 rfl) ?_
    refine va_calli (va_runV (As := [.int x4]) (rest := []) ⟨hx, hb, hml, hown, hg⟩ (m_X0_has l G x4 I32 L33 _  hv) (cwV 1 hg (mm_gV k_3 k_4 k_5 k_6 kc_X0_has) rfl rfl rfl (by decide +kernel) ⟨Nat.le_of_ble_eq_true rfl, Nat.le_of_ble_eq_true rfl⟩) ⟨mm_blind, mm_recv hK hP (t := 2) (by decide) rfl rfl, fun U hU hW => mm_call hP hK hD hC hU hS hW⟩ rfl rfl hl.1 rfl (lv_room (Nat.le_of_ble_eq_true rfl)) d_X0_operandsFit_36 ⟨Nat.zero_le _, Nat.zero_le _⟩) hS (fun q _ h => h) (fun q h => h) (fun r37 u t H locs ht hvm hv hP hz1 hk1 hS => ?_)
    obtain ⟨I35, L36⟩ := u
    dsimp only at hv hP
    rw [ht] at hP
    have hD : mm_DW G I35 L36 := mm_D_any hD
    refine lv_if_eq (tgt := 46) hx hb d_X0_operandsFit_39 (by decide) (fun hc => ?_) (fun hc => ?_)
    · have hv := hv.1 hc
      refine lv_iconst (v := 0) hx hb d_X0_operandsFit_46 (by decide) ?_
      exact W.zret (v := 0) (ty := .boolean) hx hb hr (by decide) (fun t ht hW => ⟨⟨0, (I35, L36), rfl, hv, mm_mv ht hP⟩, hS.F ht⟩) hS.2.2 d_X0_operandsFit_47
    · have hv := hv.2 hc
      refine lv_iconst (v := 1) hx hb d_X0_operandsFit_42 (by decide) ?_
      refine lv_goto (tgt := 47) hx hb d_X0_operandsFit_43 (by decide) ?_
      exact W.zret (v := 1) (ty := .boolean) hx hb hr (by decide) (fun t ht hW => ⟨⟨1, (I35, L36), rfl, hv, mm_mv ht hP⟩, hS.F ht⟩) hS.2.2 d_X0_operandsFit_47
set_option maxHeartbeats 4000000 in
set_option maxRecDepth 100000 in
theorem w_X0_operandsFit_0 {p : Program} {l : Launch} {e : Env} {s : State} {m : MethodId} {args : Array Value} {below : List Frame} {meth : Method} {c : Code} {G : mm_G} (hcx : mm_cx c_X0_operandsFit (some .boolean) 5 RX0 G p s m args meth c) (x1 : Int32) (x2 : Int32) (x3 : Int32) (x4 : Int32) (I : mm_I) (L : mm_L) (Q : Int32 → mm_I → mm_L → Prop)  (hv : vc_X0_operandsFit_0 x1 x2 x3 x4 I L Q) {H : Heap} {locs : List Loc} (hP : mm_PW G I L H) (hD : mm_DW G I L) (hS : va_S G.2.2.2.1 s.heap H locs) {ls : Array Slot} (hl : lv_has ls 5 [(0, .ref (G.2.2.1 2)), (1, .int x1), (2, .int x2), (3, .int x3), (4, .int x4)]) : W p l e (headSpec w_X0_operandsFit rm_X0_operandsFit).room s m args below meth c H locs 0 0 (MQ below (mm_qi G Q) args s 0 0 G.2.2.2.1) (F0 m 0 ls []) := by
  obtain ⟨hx, hb, hr, hlocks, hml, hown, hg, hK, hC⟩ := id hcx
  unfold vc_X0_operandsFit_0 at hv
  refine lv_aload_n hx hb d_X0_operandsFit_0 rfl (lv_at hl 0 rfl) ?_
  refine lv_iload_n hx hb d_X0_operandsFit_1 rfl (lv_at hl 1 rfl) ?_
  refine lv_iload_n hx hb d_X0_operandsFit_2 rfl (lv_at hl 2 rfl) ?_
  refine va_calli (va_runV (As := [.int x1, .int x2]) (rest := []) ⟨hx, hb, hml, hown, hg⟩ (m_X0_firstFits l G x1 x2 I L _  hv) (cwV 2 hg (mm_gV k_9 k_10 k_11 k_6 kc_X0_firstFits) rfl rfl rfl (by decide +kernel) ⟨Nat.le_of_ble_eq_true rfl, Nat.le_of_ble_eq_true rfl⟩) ⟨mm_blind, mm_recv hK hP (t := 2) (by decide) rfl rfl, fun U hU hW => mm_call hP hK hD hC hU hS hW⟩ rfl rfl hl.1 rfl (lv_room (Nat.le_of_ble_eq_true rfl)) d_X0_operandsFit_3 ⟨Nat.zero_le _, Nat.zero_le _⟩) hS (fun q _ h => h) (fun q h => h) (fun r25 u t H locs ht hvm hv hP hz1 hk1 hS => ?_)
  obtain ⟨I23, L24⟩ := u
  dsimp only at hv hP
  rw [ht] at hP
  have hD : mm_DW G I23 L24 := mm_D_any hD
  refine lv_if_eq (tgt := 46) hx hb d_X0_operandsFit_6 (by decide) (fun hc => ?_) (fun hc => ?_)
  · have hv := hv.1 hc
    refine lv_iconst (v := 0) hx hb d_X0_operandsFit_46 (by decide) ?_
    exact W.zret (v := 0) (ty := .boolean) hx hb hr (by decide) (fun t ht hW => ⟨⟨0, (I23, L24), rfl, hv, mm_mv ht hP⟩, hS.F ht⟩) hS.2.2 d_X0_operandsFit_47
  · have hv := hv.2 hc
    refine lv_iload_n hx hb d_X0_operandsFit_9 rfl (lv_at hl 1 rfl) ?_
    refine lv_iconst (v := 2) hx hb d_X0_operandsFit_10 (by decide) ?_
    refine va_calli (va_runS (As := [.int x1, .int 2]) (rest := []) ⟨hx, hb, hml, hown, hg⟩ (m_X0_takesNode l G x1 2 I23 L24 _  hv) (va_cwS 2 hg (mm_gS k_7 k_8 k_6 kc_X0_takesNode) rfl rfl rfl (by decide +kernel) ⟨Nat.le_of_ble_eq_true rfl, Nat.le_of_ble_eq_true rfl⟩) ⟨mm_blind, fun U hU hW => mm_call hP hK hD hC hU hS hW⟩ rfl rfl hl.1 rfl (lv_room (Nat.le_of_ble_eq_true rfl)) d_X0_operandsFit_11 ⟨Nat.zero_le _, Nat.zero_le _⟩) hS (fun q _ h => h) (fun q h => h) (fun r28 u t H locs ht hvm hv hP hz1 hk1 hS => ?_)
    obtain ⟨I26, L27⟩ := u
    dsimp only at hv hP
    rw [ht] at hP
    have hD : mm_DW G I26 L27 := mm_D_any hD
    refine lv_if_eq (tgt := 25) hx hb d_X0_operandsFit_14 (by decide) (fun hc => ?_) (fun hc => ?_)
    · have hv := hv.1 hc
      exact w_X0_operandsFit_25 hcx x1 x4 I26 L27 Q  hv hP hD hS (lv_sub hl [0, 1, 4] rfl)
    · have hv := hv.2 hc
      refine lv_aload_n hx hb d_X0_operandsFit_17 rfl (lv_at hl 0 rfl) ?_
      refine lv_iload_n hx hb d_X0_operandsFit_18 rfl (lv_at hl 3 rfl) ?_
      refine va_calli (va_runV (As := [.int x3]) (rest := []) ⟨hx, hb, hml, hown, hg⟩ (m_X0_has l G x3 I26 L27 _  hv) (cwV 1 hg (mm_gV k_3 k_4 k_5 k_6 kc_X0_has) rfl rfl rfl (by decide +kernel) ⟨Nat.le_of_ble_eq_true rfl, Nat.le_of_ble_eq_true rfl⟩) ⟨mm_blind, mm_recv hK hP (t := 2) (by decide) rfl rfl, fun U hU hW => mm_call hP hK hD hC hU hS hW⟩ rfl rfl hl.1 rfl (lv_room (Nat.le_of_ble_eq_true rfl)) d_X0_operandsFit_19 ⟨Nat.zero_le _, Nat.zero_le _⟩) hS (fun q _ h => h) (fun q h => h) (fun r31 u t H locs ht hvm hv hP hz1 hk1 hS => ?_)
      obtain ⟨I29, L30⟩ := u
      dsimp only at hv hP
      rw [ht] at hP
      have hD : mm_DW G I29 L30 := mm_D_any hD
      refine lv_if_eq (tgt := 46) hx hb d_X0_operandsFit_22 (by decide) (fun hc => ?_) (fun hc => ?_)
      · have hv := hv.1 hc
        refine lv_iconst (v := 0) hx hb d_X0_operandsFit_46 (by decide) ?_
        exact W.zret (v := 0) (ty := .boolean) hx hb hr (by decide) (fun t ht hW => ⟨⟨0, (I29, L30), rfl, hv, mm_mv ht hP⟩, hS.F ht⟩) hS.2.2 d_X0_operandsFit_47
      · have hv := hv.2 hc
        exact w_X0_operandsFit_25 hcx x1 x4 I29 L30 Q  hv hP hD hS (lv_sub hl [0, 1, 4] rfl)
abbrev vc_X0_operandsFit (x1 : Int32) (x2 : Int32) (x3 : Int32) (x4 : Int32) (I : mm_I) (L : mm_L) (Q : Int32 → mm_I → mm_L → Prop) : Prop := vc_X0_operandsFit_0 x1 x2 x3 x4 I L Q
set_option maxHeartbeats 4000000 in
set_option maxRecDepth 100000 in
theorem m_X0_operandsFit (l : Launch) (G : mm_G) (x1 : Int32) (x2 : Int32) (x3 : Int32) (x4 : Int32) (I : mm_I) (L : mm_L) (Q : Int32 → mm_I → mm_L → Prop)  (hv : vc_X0_operandsFit x1 x2 x3 x4 I L Q) : Met l y_X0_operandsFit w_X0_operandsFit rm_X0_operandsFit (mm_pre G [.ref (G.2.2.1 2), .int x1, .int x2, .int x3, .int x4] I L) (mm_qi G Q) 0 0 G.2.2.2.1 := by
  refine Met.ofW (cc := c_X0_operandsFit) (maxL := 5) (ret := (some .boolean)) (by decide) rfl ?_
  intro p e s m args below meth c s₁ B hml hw
  obtain ⟨rfl, hP, hK, hD, hC⟩ := hw
  have hts := atoms_spec (ws := w_X0_operandsFit) B.pre
  have hown : s.vm.findClass RX0 = some m.cls := findClass_of_methodNamed B.named
  have hl := lv_entry ([.ref (G.2.2.1 2), .int x1, .int x2, .int x3, .int x4]) (n := 5) (Nat.le_of_ble_eq_true rfl)
  rw [lg_entry_eq]
  generalize (lg_sl ([.ref (G.2.2.1 2), .int x1, .int x2, .int x3, .int x4]) ++ List.replicate (5 - (lg_sl ([.ref (G.2.2.1 2), .int x1, .int x2, .int x3, .int x4])).length) Slot.unset).toArray = ls at hl ⊢
  have hl : lv_has ls 5 [(0, .ref (G.2.2.1 2)), (1, .int x1), (2, .int x2), (3, .int x3), (4, .int x4)] := hl
  exact w_X0_operandsFit_0 ⟨B.exec, B.bytes, B.returns, B.notSynchronized, hml, hown, fun w h => hts w (List.mem_cons_of_mem _ h), hK, hC⟩ x1 x2 x3 x4 I L Q  hv hP hD va_S.rf hl
abbrev rm_X0_levelOf : Room := { frames := 0, cells := 0, slots := 0, locals := 0 }
def vc_X0_levelOf_0 (x1 : Int32) (I : mm_I) (L : mm_L) (Q : Int32 → mm_I → mm_L → Prop) : Prop :=
  (¬ x1 = (-1) → vp_in x1 70 ∧ Q (I 7 x1.toNatClampNeg) I L) ∧ (x1 = (-1) → Q 0 I L)
set_option maxHeartbeats 4000000 in
set_option maxRecDepth 100000 in
theorem w_X0_levelOf_0 {p : Program} {l : Launch} {e : Env} {s : State} {m : MethodId} {args : Array Value} {below : List Frame} {meth : Method} {c : Code} {G : mm_G} (hcx : mm_cx c_X0_levelOf (some .int) 2 RX0 G p s m args meth c) (x1 : Int32) (I : mm_I) (L : mm_L) (Q : Int32 → mm_I → mm_L → Prop)  (hv : vc_X0_levelOf_0 x1 I L Q) {H : Heap} {locs : List Loc} (hP : mm_PW G I L H) (hD : mm_DW G I L) (hS : va_S G.2.2.2.1 s.heap H locs) {ls : Array Slot} (hl : lv_has ls 2 [(0, .ref (G.2.2.1 2)), (1, .int x1)]) : W p l e (headSpec w_X0_levelOf rm_X0_levelOf).room s m args below meth c H locs 0 0 (MQ below (mm_qi G Q) args s 0 0 G.2.2.2.1) (F0 m 0 ls []) := by
  obtain ⟨hx, hb, hr, hlocks, hml, hown, hg, hK, hC⟩ := id hcx
  unfold vc_X0_levelOf_0 at hv
  refine lv_iload_n hx hb d_X0_levelOf_0 rfl (lv_at hl 1 rfl) ?_
  refine lv_iconst (v := (-1)) hx hb d_X0_levelOf_1 (by decide) ?_
  refine lv_icmp_ne (tgt := 9) hx hb d_X0_levelOf_2 (by decide) (fun hc => ?_) (fun hc => ?_)
  · have hv := hv.1 hc
    refine lv_aload_n hx hb d_X0_levelOf_9 rfl (lv_at hl 0 rfl) ?_
    refine mm_gr (D := G.1) (C := RX0) (T := TX0) (N0 := 8) (r := 7) hx hb hg in_X0 hown hK hP (t := 2) (by decide) rfl rfl 4 (by decide) (hg _ k_12) (fun _ h9 => h9) rfl d_X0_levelOf_10 ?_
    refine lv_iload_n hx hb d_X0_levelOf_13 rfl (lv_at hl 1 rfl) ?_
    obtain ⟨h38, hv⟩ := hv
    refine mm_iald (D := G.1) hx hb hK hP (t := 7) (by decide) rfl rfl h38 d_X0_levelOf_14 ?_
    exact W.iret (v := (I 7 x1.toNatClampNeg)) hx hb hr (fun t ht hW => ⟨⟨(I 7 x1.toNatClampNeg), (I, L), rfl, hv, mm_mv ht hP⟩, hS.F ht⟩) hS.2.2 d_X0_levelOf_15
  · have hv := hv.2 hc
    refine lv_iconst (v := 0) hx hb d_X0_levelOf_5 (by decide) ?_
    refine lv_goto (tgt := 15) hx hb d_X0_levelOf_6 (by decide) ?_
    exact W.iret (v := 0) hx hb hr (fun t ht hW => ⟨⟨0, (I, L), rfl, hv, mm_mv ht hP⟩, hS.F ht⟩) hS.2.2 d_X0_levelOf_15
abbrev vc_X0_levelOf (x1 : Int32) (I : mm_I) (L : mm_L) (Q : Int32 → mm_I → mm_L → Prop) : Prop := vc_X0_levelOf_0 x1 I L Q
set_option maxHeartbeats 4000000 in
set_option maxRecDepth 100000 in
theorem m_X0_levelOf (l : Launch) (G : mm_G) (x1 : Int32) (I : mm_I) (L : mm_L) (Q : Int32 → mm_I → mm_L → Prop)  (hv : vc_X0_levelOf x1 I L Q) : Met l y_X0_levelOf w_X0_levelOf rm_X0_levelOf (mm_pre G [.ref (G.2.2.1 2), .int x1] I L) (mm_qi G Q) 0 0 G.2.2.2.1 := by
  refine Met.ofW (cc := c_X0_levelOf) (maxL := 2) (ret := (some .int)) (by decide) rfl ?_
  intro p e s m args below meth c s₁ B hml hw
  obtain ⟨rfl, hP, hK, hD, hC⟩ := hw
  have hts := atoms_spec (ws := w_X0_levelOf) B.pre
  have hown : s.vm.findClass RX0 = some m.cls := findClass_of_methodNamed B.named
  have hl := lv_entry ([.ref (G.2.2.1 2), .int x1]) (n := 2) (Nat.le_of_ble_eq_true rfl)
  rw [lg_entry_eq]
  generalize (lg_sl ([.ref (G.2.2.1 2), .int x1]) ++ List.replicate (2 - (lg_sl ([.ref (G.2.2.1 2), .int x1])).length) Slot.unset).toArray = ls at hl ⊢
  have hl : lv_has ls 2 [(0, .ref (G.2.2.1 2)), (1, .int x1)] := hl
  exact w_X0_levelOf_0 ⟨B.exec, B.bytes, B.returns, B.notSynchronized, hml, hown, fun w h => hts w (List.mem_cons_of_mem _ h), hK, hC⟩ x1 I L Q  hv hP hD va_S.rf hl
abbrev rm_X0_rankOf : Room := { frames := 0, cells := 0, slots := 0, locals := 0 }
def vc_X0_rankOf_0 (x1 : Int32) (I : mm_I) (L : mm_L) (Q : Int32 → mm_I → mm_L → Prop) : Prop :=
  (¬ x1 = (-1) → vp_in x1 70 ∧ Q (I 8 x1.toNatClampNeg) I L) ∧ (x1 = (-1) → Q 0 I L)
set_option maxHeartbeats 4000000 in
set_option maxRecDepth 100000 in
theorem w_X0_rankOf_0 {p : Program} {l : Launch} {e : Env} {s : State} {m : MethodId} {args : Array Value} {below : List Frame} {meth : Method} {c : Code} {G : mm_G} (hcx : mm_cx c_X0_rankOf (some .int) 2 RX0 G p s m args meth c) (x1 : Int32) (I : mm_I) (L : mm_L) (Q : Int32 → mm_I → mm_L → Prop)  (hv : vc_X0_rankOf_0 x1 I L Q) {H : Heap} {locs : List Loc} (hP : mm_PW G I L H) (hD : mm_DW G I L) (hS : va_S G.2.2.2.1 s.heap H locs) {ls : Array Slot} (hl : lv_has ls 2 [(0, .ref (G.2.2.1 2)), (1, .int x1)]) : W p l e (headSpec w_X0_rankOf rm_X0_rankOf).room s m args below meth c H locs 0 0 (MQ below (mm_qi G Q) args s 0 0 G.2.2.2.1) (F0 m 0 ls []) := by
  obtain ⟨hx, hb, hr, hlocks, hml, hown, hg, hK, hC⟩ := id hcx
  unfold vc_X0_rankOf_0 at hv
  refine lv_iload_n hx hb d_X0_rankOf_0 rfl (lv_at hl 1 rfl) ?_
  refine lv_iconst (v := (-1)) hx hb d_X0_rankOf_1 (by decide) ?_
  refine lv_icmp_ne (tgt := 9) hx hb d_X0_rankOf_2 (by decide) (fun hc => ?_) (fun hc => ?_)
  · have hv := hv.1 hc
    refine lv_aload_n hx hb d_X0_rankOf_9 rfl (lv_at hl 0 rfl) ?_
    refine mm_gr (D := G.1) (C := RX0) (T := TX0) (N0 := 8) (r := 8) hx hb hg in_X0 hown hK hP (t := 2) (by decide) rfl rfl 5 (by decide) (hg _ k_13) (fun _ h9 => h9) rfl d_X0_rankOf_10 ?_
    refine lv_iload_n hx hb d_X0_rankOf_13 rfl (lv_at hl 1 rfl) ?_
    obtain ⟨h39, hv⟩ := hv
    refine mm_iald (D := G.1) hx hb hK hP (t := 8) (by decide) rfl rfl h39 d_X0_rankOf_14 ?_
    exact W.iret (v := (I 8 x1.toNatClampNeg)) hx hb hr (fun t ht hW => ⟨⟨(I 8 x1.toNatClampNeg), (I, L), rfl, hv, mm_mv ht hP⟩, hS.F ht⟩) hS.2.2 d_X0_rankOf_15
  · have hv := hv.2 hc
    refine lv_iconst (v := 0) hx hb d_X0_rankOf_5 (by decide) ?_
    refine lv_goto (tgt := 15) hx hb d_X0_rankOf_6 (by decide) ?_
    exact W.iret (v := 0) hx hb hr (fun t ht hW => ⟨⟨0, (I, L), rfl, hv, mm_mv ht hP⟩, hS.F ht⟩) hS.2.2 d_X0_rankOf_15
abbrev vc_X0_rankOf (x1 : Int32) (I : mm_I) (L : mm_L) (Q : Int32 → mm_I → mm_L → Prop) : Prop := vc_X0_rankOf_0 x1 I L Q
set_option maxHeartbeats 4000000 in
set_option maxRecDepth 100000 in
theorem m_X0_rankOf (l : Launch) (G : mm_G) (x1 : Int32) (I : mm_I) (L : mm_L) (Q : Int32 → mm_I → mm_L → Prop)  (hv : vc_X0_rankOf x1 I L Q) : Met l y_X0_rankOf w_X0_rankOf rm_X0_rankOf (mm_pre G [.ref (G.2.2.1 2), .int x1] I L) (mm_qi G Q) 0 0 G.2.2.2.1 := by
  refine Met.ofW (cc := c_X0_rankOf) (maxL := 2) (ret := (some .int)) (by decide) rfl ?_
  intro p e s m args below meth c s₁ B hml hw
  obtain ⟨rfl, hP, hK, hD, hC⟩ := hw
  have hts := atoms_spec (ws := w_X0_rankOf) B.pre
  have hown : s.vm.findClass RX0 = some m.cls := findClass_of_methodNamed B.named
  have hl := lv_entry ([.ref (G.2.2.1 2), .int x1]) (n := 2) (Nat.le_of_ble_eq_true rfl)
  rw [lg_entry_eq]
  generalize (lg_sl ([.ref (G.2.2.1 2), .int x1]) ++ List.replicate (2 - (lg_sl ([.ref (G.2.2.1 2), .int x1])).length) Slot.unset).toArray = ls at hl ⊢
  have hl : lv_has ls 2 [(0, .ref (G.2.2.1 2)), (1, .int x1)] := hl
  exact w_X0_rankOf_0 ⟨B.exec, B.bytes, B.returns, B.notSynchronized, hml, hown, fun w h => hts w (List.mem_cons_of_mem _ h), hK, hC⟩ x1 I L Q  hv hP hD va_S.rf hl
abbrev rm_X0_putInOrder : Room := { frames := 0, cells := 0, slots := 0, locals := 0 }
def vc_X0_putInOrder_48 (x1 : Int32) (x2 : Int32) (I : mm_I) (L : mm_L) (Q : mm_I → mm_L → Prop) : Prop :=
  vp_in x2 70 ∧ Q (mm_uI I 9 x2.toNatClampNeg x1) L
def vc_X0_putInOrder_2 : Nat → Int32 → Int32 → mm_I → mm_L → (mm_I → mm_L → Prop) → Prop
  | 0, _, _, _, _, _ => False
  | n9 + 1, x1, x2, I, L, Q => (x2 ≤ 0 → vc_X0_putInOrder_48 x1 x2 I L Q) ∧ (¬ x2 ≤ 0 → vp_in (x2 - 1) 70 ∧ vp_in (I 9 ((x2 - 1)).toNatClampNeg) 70 ∧ vp_in x1 70 ∧ ((I 8 ((I 9 ((x2 - 1)).toNatClampNeg)).toNatClampNeg) ≤ (I 8 x1.toNatClampNeg) → vc_X0_putInOrder_48 x1 x2 I L Q) ∧ (¬ (I 8 ((I 9 ((x2 - 1)).toNatClampNeg)).toNatClampNeg) ≤ (I 8 x1.toNatClampNeg) → vp_in (x2 - 1) 70 ∧ vp_in x2 70 ∧ vc_X0_putInOrder_2 n9 x1 (x2 + (-1)) (mm_uI I 9 x2.toNatClampNeg (I 9 ((x2 - 1)).toNatClampNeg)) L Q))
def vc_X0_putInOrder_0 (x1 : Int32) (I : mm_I) (L : mm_L) (Q : mm_I → mm_L → Prop) : Prop :=
  ∃ n, vc_X0_putInOrder_2 n x1 x1 I L Q
set_option maxHeartbeats 4000000 in
set_option maxRecDepth 100000 in
theorem w_X0_putInOrder_48 {p : Program} {l : Launch} {e : Env} {s : State} {m : MethodId} {args : Array Value} {below : List Frame} {meth : Method} {c : Code} {G : mm_G} (hcx : mm_cx c_X0_putInOrder none 3 RX0 G p s m args meth c) (x1 : Int32) (x2 : Int32) (I : mm_I) (L : mm_L) (Q : mm_I → mm_L → Prop)  (hv : vc_X0_putInOrder_48 x1 x2 I L Q) {H : Heap} {locs : List Loc} (hP : mm_PW G I L H) (hD : mm_DW G I L) (hS : va_S G.2.2.2.1 s.heap H locs) {ls : Array Slot} (hl : lv_has ls 3 [(0, .ref (G.2.2.1 2)), (1, .int x1), (2, .int x2)]) : W p l e (headSpec w_X0_putInOrder rm_X0_putInOrder).room s m args below meth c H locs 0 0 (MQ below (mm_qv G Q) args s 0 0 G.2.2.2.1) (F0 m 48 ls []) := by
  obtain ⟨hx, hb, hr, hlocks, hml, hown, hg, hK, hC⟩ := id hcx
  unfold vc_X0_putInOrder_48 at hv
  refine lv_aload_n hx hb d_X0_putInOrder_48 rfl (lv_at hl 0 rfl) ?_
  refine mm_gr (D := G.1) (C := RX0) (T := TX0) (N0 := 8) (r := 9) hx hb hg in_X0 hown hK hP (t := 2) (by decide) rfl rfl 6 (by decide) (hg _ k_14) (fun _ h9 => h9) rfl d_X0_putInOrder_49 ?_
  refine lv_iload_n hx hb d_X0_putInOrder_52 rfl (lv_at hl 2 rfl) ?_
  refine lv_iload_n hx hb d_X0_putInOrder_53 rfl (lv_at hl 1 rfl) ?_
  obtain ⟨h45, hv⟩ := hv
  refine mm_iast (D := G.1) hx hb hK hP hD hS (t := 9) (by decide) rfl rfl h45 d_X0_putInOrder_54 (fun H locs hP hD hS => ?_)
  exact W.vret hx hb hr (fun t ht hW => ⟨⟨((mm_uI I 9 x2.toNatClampNeg x1), L), rfl, hv, mm_mv ht hP⟩, hS.F ht⟩) hS.2.2 d_X0_putInOrder_55
set_option maxHeartbeats 4000000 in
set_option maxRecDepth 100000 in
theorem w_X0_putInOrder_2 {p : Program} {l : Launch} {e : Env} {s : State} {m : MethodId} {args : Array Value} {below : List Frame} {meth : Method} {c : Code} {G : mm_G} (hcx : mm_cx c_X0_putInOrder none 3 RX0 G p s m args meth c) (Q : mm_I → mm_L → Prop) : ∀ (n9 : Nat) (x1 : Int32) (x2 : Int32) (I : mm_I) (L : mm_L)  (H : Heap) (locs : List Loc) (ls : Array Slot), vc_X0_putInOrder_2 n9 x1 x2 I L Q → mm_PW G I L H → mm_DW G I L → va_S G.2.2.2.1 s.heap H locs → lv_has ls 3 [(0, .ref (G.2.2.1 2)), (1, .int x1), (2, .int x2)] → W p l e (headSpec w_X0_putInOrder rm_X0_putInOrder).room s m args below meth c H locs 0 0 (MQ below (mm_qv G Q) args s 0 0 G.2.2.2.1) (F0 m 2 ls []) := by
  obtain ⟨hx, hb, hr, hlocks, hml, hown, hg, hK, hC⟩ := id hcx
  intro n9
  induction n9 with
  | zero => intro x1 x2 I L H locs ls hv hP hD hS hl; exact hv.elim
  | succ n9 ih =>
    intro x1 x2 I L H locs ls hv hP hD hS hl
    rw [vc_X0_putInOrder_2] at hv
    refine lv_iload_n hx hb d_X0_putInOrder_2 rfl (lv_at hl 2 rfl) ?_
    refine lv_if_le (tgt := 48) hx hb d_X0_putInOrder_3 (by decide) (fun hc => ?_) (fun hc => ?_)
    · have hv := hv.1 hc
      exact w_X0_putInOrder_48 hcx x1 x2 I L Q  hv hP hD hS (lv_sub hl [0, 1, 2] rfl)
    · have hv := hv.2 hc
      refine lv_aload_n hx hb d_X0_putInOrder_6 rfl (lv_at hl 0 rfl) ?_
      refine mm_gr (D := G.1) (C := RX0) (T := TX0) (N0 := 8) (r := 8) hx hb hg in_X0 hown hK hP (t := 2) (by decide) rfl rfl 5 (by decide) (hg _ k_13) (fun _ h9 => h9) rfl d_X0_putInOrder_7 ?_
      refine lv_aload_n hx hb d_X0_putInOrder_10 rfl (lv_at hl 0 rfl) ?_
      refine mm_gr (D := G.1) (C := RX0) (T := TX0) (N0 := 8) (r := 9) hx hb hg in_X0 hown hK hP (t := 2) (by decide) rfl rfl 6 (by decide) (hg _ k_14) (fun _ h9 => h9) rfl d_X0_putInOrder_11 ?_
      refine lv_iload_n hx hb d_X0_putInOrder_14 rfl (lv_at hl 2 rfl) ?_
      refine lv_iconst (v := 1) hx hb d_X0_putInOrder_15 (by decide) ?_
      refine lv_isub hx hb d_X0_putInOrder_16 ?_
      obtain ⟨h40, hv⟩ := hv
      refine mm_iald (D := G.1) hx hb hK hP (t := 9) (by decide) rfl rfl h40 d_X0_putInOrder_17 ?_
      obtain ⟨h41, hv⟩ := hv
      refine mm_iald (D := G.1) hx hb hK hP (t := 8) (by decide) rfl rfl h41 d_X0_putInOrder_18 ?_
      refine lv_aload_n hx hb d_X0_putInOrder_19 rfl (lv_at hl 0 rfl) ?_
      refine mm_gr (D := G.1) (C := RX0) (T := TX0) (N0 := 8) (r := 8) hx hb hg in_X0 hown hK hP (t := 2) (by decide) rfl rfl 5 (by decide) (hg _ k_13) (fun _ h9 => h9) rfl d_X0_putInOrder_20 ?_
      refine lv_iload_n hx hb d_X0_putInOrder_23 rfl (lv_at hl 1 rfl) ?_
      obtain ⟨h42, hv⟩ := hv
      refine mm_iald (D := G.1) hx hb hK hP (t := 8) (by decide) rfl rfl h42 d_X0_putInOrder_24 ?_
      refine lv_icmp_le (tgt := 48) hx hb d_X0_putInOrder_25 (by decide) (fun hc => ?_) (fun hc => ?_)
      · have hv := hv.1 hc
        exact w_X0_putInOrder_48 hcx x1 x2 I L Q  hv hP hD hS (lv_sub hl [0, 1, 2] rfl)
      · have hv := hv.2 hc
        refine lv_aload_n hx hb d_X0_putInOrder_28 rfl (lv_at hl 0 rfl) ?_
        refine mm_gr (D := G.1) (C := RX0) (T := TX0) (N0 := 8) (r := 9) hx hb hg in_X0 hown hK hP (t := 2) (by decide) rfl rfl 6 (by decide) (hg _ k_14) (fun _ h9 => h9) rfl d_X0_putInOrder_29 ?_
        refine lv_iload_n hx hb d_X0_putInOrder_32 rfl (lv_at hl 2 rfl) ?_
        refine lv_aload_n hx hb d_X0_putInOrder_33 rfl (lv_at hl 0 rfl) ?_
        refine mm_gr (D := G.1) (C := RX0) (T := TX0) (N0 := 8) (r := 9) hx hb hg in_X0 hown hK hP (t := 2) (by decide) rfl rfl 6 (by decide) (hg _ k_14) (fun _ h9 => h9) rfl d_X0_putInOrder_34 ?_
        refine lv_iload_n hx hb d_X0_putInOrder_37 rfl (lv_at hl 2 rfl) ?_
        refine lv_iconst (v := 1) hx hb d_X0_putInOrder_38 (by decide) ?_
        refine lv_isub hx hb d_X0_putInOrder_39 ?_
        obtain ⟨h43, hv⟩ := hv
        refine mm_iald (D := G.1) hx hb hK hP (t := 9) (by decide) rfl rfl h43 d_X0_putInOrder_40 ?_
        obtain ⟨h44, hv⟩ := hv
        refine mm_iast (D := G.1) hx hb hK hP hD hS (t := 9) (by decide) rfl rfl h44 d_X0_putInOrder_41 (fun H locs hP hD hS => ?_)
        refine lv_iinc (v := (x2 + (-1))) (lv' := [(2, .int (x2 + (-1))), (0, .ref (G.2.2.1 2)), (1, .int x1)]) hx hb d_X0_putInOrder_42 hl (k := 2) rfl (by rfl) (by decide) rfl (fun ls hl => ?_)
        refine lv_goto (tgt := 2) hx hb d_X0_putInOrder_45 (by decide) ?_
        exact ih x1 (x2 + (-1)) (mm_uI I 9 x2.toNatClampNeg (I 9 ((x2 - 1)).toNatClampNeg)) L  H locs ls hv hP hD hS (lv_sub hl [1, 2, 0] rfl)
set_option maxHeartbeats 4000000 in
set_option maxRecDepth 100000 in
theorem w_X0_putInOrder_0 {p : Program} {l : Launch} {e : Env} {s : State} {m : MethodId} {args : Array Value} {below : List Frame} {meth : Method} {c : Code} {G : mm_G} (hcx : mm_cx c_X0_putInOrder none 3 RX0 G p s m args meth c) (x1 : Int32) (I : mm_I) (L : mm_L) (Q : mm_I → mm_L → Prop)  (hv : vc_X0_putInOrder_0 x1 I L Q) {H : Heap} {locs : List Loc} (hP : mm_PW G I L H) (hD : mm_DW G I L) (hS : va_S G.2.2.2.1 s.heap H locs) {ls : Array Slot} (hl : lv_has ls 3 [(0, .ref (G.2.2.1 2)), (1, .int x1)]) : W p l e (headSpec w_X0_putInOrder rm_X0_putInOrder).room s m args below meth c H locs 0 0 (MQ below (mm_qv G Q) args s 0 0 G.2.2.2.1) (F0 m 0 ls []) := by
  obtain ⟨hx, hb, hr, hlocks, hml, hown, hg, hK, hC⟩ := id hcx
  unfold vc_X0_putInOrder_0 at hv
  refine lv_iload_n hx hb d_X0_putInOrder_0 rfl (lv_at hl 1 rfl) ?_
  refine lv_istore_n (lv' := [(2, .int x1), (0, .ref (G.2.2.1 2)), (1, .int x1)]) hx hb d_X0_putInOrder_1 rfl hl (by decide) rfl (fun ls hl => ?_)
  obtain ⟨n, hv⟩ := hv
  exact w_X0_putInOrder_2 hcx Q n x1 x1 I L  H locs ls hv hP hD hS (lv_sub hl [1, 2, 0] rfl)
abbrev vc_X0_putInOrder (x1 : Int32) (I : mm_I) (L : mm_L) (Q : mm_I → mm_L → Prop) : Prop := vc_X0_putInOrder_0 x1 I L Q
set_option maxHeartbeats 4000000 in
set_option maxRecDepth 100000 in
theorem m_X0_putInOrder (l : Launch) (G : mm_G) (x1 : Int32) (I : mm_I) (L : mm_L) (Q : mm_I → mm_L → Prop)  (hv : vc_X0_putInOrder x1 I L Q) : Met l y_X0_putInOrder w_X0_putInOrder rm_X0_putInOrder (mm_pre G [.ref (G.2.2.1 2), .int x1] I L) (mm_qv G Q) 0 0 G.2.2.2.1 := by
  refine Met.ofW (cc := c_X0_putInOrder) (maxL := 3) (ret := none) (by decide) rfl ?_
  intro p e s m args below meth c s₁ B hml hw
  obtain ⟨rfl, hP, hK, hD, hC⟩ := hw
  have hts := atoms_spec (ws := w_X0_putInOrder) B.pre
  have hown : s.vm.findClass RX0 = some m.cls := findClass_of_methodNamed B.named
  have hl := lv_entry ([.ref (G.2.2.1 2), .int x1]) (n := 3) (Nat.le_of_ble_eq_true rfl)
  rw [lg_entry_eq]
  generalize (lg_sl ([.ref (G.2.2.1 2), .int x1]) ++ List.replicate (3 - (lg_sl ([.ref (G.2.2.1 2), .int x1])).length) Slot.unset).toArray = ls at hl ⊢
  have hl : lv_has ls 3 [(0, .ref (G.2.2.1 2)), (1, .int x1)] := hl
  exact w_X0_putInOrder_0 ⟨B.exec, B.bytes, B.returns, B.notSynchronized, hml, hown, fun w h => hts w (List.mem_cons_of_mem _ h), hK, hC⟩ x1 I L Q  hv hP hD va_S.rf hl
abbrev rm_X0_make : Room := { frames := 4, cells := 0, slots := 0, locals := 88 }
def vc_X0_make_178 (x5 : Int32) (x6 : Int32) (x7 : Int32) (x9 : Int32) (xs0 : Int32) (I : mm_I) (L : mm_L) (Q : Int32 → mm_I → mm_L → Prop) : Prop :=
  vc_X0_rankOf x5 I L (fun r77 I75 L76 => vc_X0_rankOf x6 I75 L76 (fun r80 I78 L79 => vc_X0_rankOf x7 I78 L79 (fun r83 I81 L82 => vp_in x9 70 ∧ vc_X0_putInOrder x9 (mm_uI I81 8 x9.toNatClampNeg (if (if xs0 < r77 then r77 else xs0) < (if r80 < r83 then r83 else r80) then (if r80 < r83 then r83 else r80) else (if xs0 < r77 then r77 else xs0))) L82 (fun I85 L86 => Q x9 (mm_uI I85 2 7 ((I85 2 7) + 1)) L86))))
def vc_X0_make_67 (x1 : Int32) (x2 : Int32) (x3 : Int32) (x4 : Int32) (x5 : Int32) (x6 : Int32) (xs0 : Int32) (I : mm_I) (L : mm_L) (Q : Int32 → mm_I → mm_L → Prop) : Prop :=
  vc_X0_levelOf x5 I L (fun r63 I61 L62 => vc_X0_levelOf x6 I61 L62 (fun r66 I64 L65 => vc_X0_levelOf xs0 I64 L65 (fun r69 I67 L68 => ((1 + (if r63 < (if r66 < r69 then r69 else r66) then (if r66 < r69 then r69 else r66) else r63)) ≤ 10 → (¬ (I67 2 7) = 70 → vp_in (I67 2 7) 70 ∧ vp_in (I67 2 7) 70 ∧ vp_in (I67 2 7) 70 ∧ vp_in (I67 2 7) 70 ∧ vp_in (I67 2 7) 70 ∧ (¬ x1 = 2 → vc_X0_make_178 x5 x6 xs0 (I67 2 7) 0 (mm_uI (mm_uI (mm_uI (mm_uI (mm_uI I67 3 ((I67 2 7)).toNatClampNeg x1) 4 ((I67 2 7)).toNatClampNeg x2) 5 ((I67 2 7)).toNatClampNeg x3) 6 ((I67 2 7)).toNatClampNeg x4) 7 ((I67 2 7)).toNatClampNeg (1 + (if r63 < (if r66 < r69 then r69 else r66) then (if r66 < r69 then r69 else r66) else r63))) L68 Q) ∧ (x1 = 2 → vc_X0_make_178 x5 x6 xs0 (I67 2 7) (x2 + 1) (mm_uI (mm_uI (mm_uI (mm_uI (mm_uI I67 3 ((I67 2 7)).toNatClampNeg x1) 4 ((I67 2 7)).toNatClampNeg x2) 5 ((I67 2 7)).toNatClampNeg x3) 6 ((I67 2 7)).toNatClampNeg x4) 7 ((I67 2 7)).toNatClampNeg (1 + (if r63 < (if r66 < r69 then r69 else r66) then (if r66 < r69 then r69 else r66) else r63))) L68 Q)) ∧ ((I67 2 7) = 70 → Q (-2) I67 L68)) ∧ (¬ (1 + (if r63 < (if r66 < r69 then r69 else r66) then (if r66 < r69 then r69 else r66) else r63)) ≤ 10 → Q (-1) I67 L68))))
def vc_X0_make_51 (x1 : Int32) (x2 : Int32) (x3 : Int32) (x4 : Int32) (x5 : Int32) (xs0 : Int32) (I : mm_I) (L : mm_L) (Q : Int32 → mm_I → mm_L → Prop) : Prop :=
  vc_X0_takesNode x1 4 I L (fun r60 I58 L59 => (r60 = 0 → vc_X0_make_67 x1 x2 x3 x4 x5 xs0 (-1) I58 L59 Q) ∧ (¬ r60 = 0 → vc_X0_make_67 x1 x2 x3 x4 x5 xs0 x4 I58 L59 Q))
def vc_X0_make_36 (x1 : Int32) (x2 : Int32) (x3 : Int32) (x4 : Int32) (xs0 : Int32) (I : mm_I) (L : mm_L) (Q : Int32 → mm_I → mm_L → Prop) : Prop :=
  vc_X0_takesNode x1 2 I L (fun r57 I55 L56 => (r57 = 0 → vc_X0_make_51 x1 x2 x3 x4 xs0 (-1) I55 L56 Q) ∧ (¬ r57 = 0 → vc_X0_make_51 x1 x2 x3 x4 xs0 x3 I55 L56 Q))
def vc_X0_make_0 (x1 : Int32) (x2 : Int32) (x3 : Int32) (x4 : Int32) (I : mm_I) (L : mm_L) (Q : Int32 → mm_I → mm_L → Prop) : Prop :=
  vc_X6_within x1 20 I L (fun r48 I46 L47 => (r48 = 0 → Q (-1) I46 L47) ∧ (¬ r48 = 0 → vc_X0_operandsFit x1 x2 x3 x4 I46 L47 (fun r51 I49 L50 => (¬ r51 = 0 → vc_X0_takesNode x1 1 I49 L50 (fun r54 I52 L53 => (r54 = 0 → vc_X0_make_36 x1 x2 x3 x4 (-1) I52 L53 Q) ∧ (¬ r54 = 0 → vc_X0_make_36 x1 x2 x3 x4 x2 I52 L53 Q))) ∧ (r51 = 0 → Q (-1) I49 L50))))
set_option maxHeartbeats 4000000 in
set_option maxRecDepth 100000 in
theorem w_X0_make_178 {p : Program} {l : Launch} {e : Env} {s : State} {m : MethodId} {args : Array Value} {below : List Frame} {meth : Method} {c : Code} {G : mm_G} (hcx : mm_cx c_X0_make (some .int) 11 RX0 G p s m args meth c) (x5 : Int32) (x6 : Int32) (x7 : Int32) (x9 : Int32) (xs0 : Int32) (I : mm_I) (L : mm_L) (Q : Int32 → mm_I → mm_L → Prop)  (hv : vc_X0_make_178 x5 x6 x7 x9 xs0 I L Q) {H : Heap} {locs : List Loc} (hP : mm_PW G I L H) (hD : mm_DW G I L) (hS : va_S G.2.2.2.1 s.heap H locs) {ls : Array Slot} (hl : lv_has ls 11 [(0, .ref (G.2.2.1 2)), (5, .int x5), (6, .int x6), (7, .int x7), (9, .int x9)]) : W p l e (headSpec w_X0_make rm_X0_make).room s m args below meth c H locs 0 0 (MQ below (mm_qi G Q) args s 0 0 G.2.2.2.1) (F0 m 178 ls [.int xs0]) := by
  obtain ⟨hx, hb, hr, hlocks, hml, hown, hg, hK, hC⟩ := id hcx
  unfold vc_X0_make_178 at hv
  refine lv_istore (lv' := [(10, .int xs0), (0, .ref (G.2.2.1 2)), (5, .int x5), (6, .int x6), (7, .int x7), (9, .int x9)]) hx hb d_X0_make_178 hl (by decide) rfl (fun ls hl => ?_)
  refine lv_aload_n hx hb d_X0_make_180 rfl (lv_at hl 1 rfl) ?_
  refine mm_gr (D := G.1) (C := RX0) (T := TX0) (N0 := 8) (r := 8) hx hb hg in_X0 hown hK hP (t := 2) (by decide) rfl rfl 5 (by decide) (hg _ k_13) (fun _ h9 => h9) rfl d_X0_make_181 ?_
  refine lv_iload hx hb d_X0_make_184 (lv_at hl 5 rfl) ?_
  refine lv_iload hx hb d_X0_make_186 (lv_at hl 0 rfl) ?_
  refine lv_aload_n hx hb d_X0_make_188 rfl (lv_at hl 1 rfl) ?_
  refine lv_iload hx hb d_X0_make_189 (lv_at hl 2 rfl) ?_
  refine va_calli (va_runV (As := [.int x5]) (rest := [.int xs0, .int x9, .ref (G.2.2.1 8)]) ⟨hx, hb, hml, hown, hg⟩ (m_X0_rankOf l G x5 I L _  hv) (cwV 1 hg (mm_gV k_31 k_32 k_33 k_6 kc_X0_rankOf) rfl rfl rfl (by decide +kernel) ⟨Nat.le_of_ble_eq_true rfl, Nat.le_of_ble_eq_true rfl⟩) ⟨mm_blind, mm_recv hK hP (t := 2) (by decide) rfl rfl, fun U hU hW => mm_call hP hK hD hC hU hS hW⟩ rfl rfl hl.1 rfl (lv_room (Nat.le_of_ble_eq_true rfl)) d_X0_make_191 ⟨Nat.zero_le _, Nat.zero_le _⟩) hS (fun q _ h => h) (fun q h => h) (fun r77 u t H locs ht hvm hv hP hz1 hk1 hS => ?_)
  obtain ⟨I75, L76⟩ := u
  dsimp only at hv hP
  rw [ht] at hP
  have hD : mm_DW G I75 L76 := mm_D_any hD
  refine va_mmax hx hb (by rw [hml]; exact hl.1.symm) hown (hg _ k_18) (hg _ k_19) (hg _ k_20) (hg _ kc_max) (Nat.le_of_ble_eq_true rfl) (Nat.le_of_ble_eq_true rfl) (Nat.zero_le _) (Nat.zero_le _) d_X0_make_194 ?_
  refine lv_aload_n hx hb d_X0_make_197 rfl (lv_at hl 1 rfl) ?_
  refine lv_iload hx hb d_X0_make_198 (lv_at hl 3 rfl) ?_
  refine va_calli (va_runV (As := [.int x6]) (rest := [.int (if xs0 < r77 then r77 else xs0), .int x9, .ref (G.2.2.1 8)]) ⟨hx, hb, hml, hown, hg⟩ (m_X0_rankOf l G x6 I75 L76 _  hv) (cwV 1 hg (mm_gV k_31 k_32 k_33 k_6 kc_X0_rankOf) rfl rfl rfl (by decide +kernel) ⟨Nat.le_of_ble_eq_true rfl, Nat.le_of_ble_eq_true rfl⟩) ⟨mm_blind, mm_recv hK hP (t := 2) (by decide) rfl rfl, fun U hU hW => mm_call hP hK hD hC hU hS hW⟩ rfl rfl hl.1 rfl (lv_room (Nat.le_of_ble_eq_true rfl)) d_X0_make_200 ⟨Nat.zero_le _, Nat.zero_le _⟩) hS (fun q _ h => h) (fun q h => h) (fun r80 u t H locs ht hvm hv hP hz1 hk1 hS => ?_)
  obtain ⟨I78, L79⟩ := u
  dsimp only at hv hP
  rw [ht] at hP
  have hD : mm_DW G I78 L79 := mm_D_any hD
  refine lv_aload_n hx hb d_X0_make_203 rfl (lv_at hl 1 rfl) ?_
  refine lv_iload hx hb d_X0_make_204 (lv_at hl 4 rfl) ?_
  refine va_calli (va_runV (As := [.int x7]) (rest := [.int r80, .int (if xs0 < r77 then r77 else xs0), .int x9, .ref (G.2.2.1 8)]) ⟨hx, hb, hml, hown, hg⟩ (m_X0_rankOf l G x7 I78 L79 _  hv) (cwV 1 hg (mm_gV k_31 k_32 k_33 k_6 kc_X0_rankOf) rfl rfl rfl (by decide +kernel) ⟨Nat.le_of_ble_eq_true rfl, Nat.le_of_ble_eq_true rfl⟩) ⟨mm_blind, mm_recv hK hP (t := 2) (by decide) rfl rfl, fun U hU hW => mm_call hP hK hD hC hU hS hW⟩ rfl rfl hl.1 rfl (lv_room (Nat.le_of_ble_eq_true rfl)) d_X0_make_206 ⟨Nat.zero_le _, Nat.zero_le _⟩) hS (fun q _ h => h) (fun q h => h) (fun r83 u t H locs ht hvm hv hP hz1 hk1 hS => ?_)
  obtain ⟨I81, L82⟩ := u
  dsimp only at hv hP
  rw [ht] at hP
  have hD : mm_DW G I81 L82 := mm_D_any hD
  refine va_mmax hx hb (by rw [hml]; exact hl.1.symm) hown (hg _ k_18) (hg _ k_19) (hg _ k_20) (hg _ kc_max) (Nat.le_of_ble_eq_true rfl) (Nat.le_of_ble_eq_true rfl) (Nat.zero_le _) (Nat.zero_le _) d_X0_make_209 ?_
  refine va_mmax hx hb (by rw [hml]; exact hl.1.symm) hown (hg _ k_18) (hg _ k_19) (hg _ k_20) (hg _ kc_max) (Nat.le_of_ble_eq_true rfl) (Nat.le_of_ble_eq_true rfl) (Nat.zero_le _) (Nat.zero_le _) d_X0_make_212 ?_
  obtain ⟨h84, hv⟩ := hv
  refine mm_iast (D := G.1) hx hb hK hP hD hS (t := 8) (by decide) rfl rfl h84 d_X0_make_215 (fun H locs hP hD hS => ?_)
  refine lv_aload_n hx hb d_X0_make_216 rfl (lv_at hl 1 rfl) ?_
  refine lv_iload hx hb d_X0_make_217 (lv_at hl 5 rfl) ?_
  refine va_callv (va_runV (As := [.int x9]) (rest := []) ⟨hx, hb, hml, hown, hg⟩ (m_X0_putInOrder l G x9 (mm_uI I81 8 x9.toNatClampNeg (if (if xs0 < r77 then r77 else xs0) < (if r80 < r83 then r83 else r80) then (if r80 < r83 then r83 else r80) else (if xs0 < r77 then r77 else xs0))) L82 _  hv) (cwV 1 hg (mm_gV k_28 k_29 k_30 k_6 kc_X0_putInOrder) rfl rfl rfl (by decide +kernel) ⟨Nat.le_of_ble_eq_true rfl, Nat.le_of_ble_eq_true rfl⟩) ⟨mm_blind, mm_recv hK hP (t := 2) (by decide) rfl rfl, fun U hU hW => mm_call hP hK hD hC hU hS hW⟩ rfl rfl hl.1 rfl (lv_room (Nat.le_of_ble_eq_true rfl)) d_X0_make_219 ⟨Nat.zero_le _, Nat.zero_le _⟩) hS (fun q _ h => h) (fun q h => h) (fun u t H locs ht hvm hv hP hz1 hk1 hS => ?_)
  obtain ⟨I85, L86⟩ := u
  dsimp only at hv hP
  rw [ht] at hP
  have hD : mm_DW G I85 L86 := mm_D_any hD
  refine lv_aload_n hx hb d_X0_make_222 rfl (lv_at hl 1 rfl) ?_
  refine lv_dup hx hb d_X0_make_223 rfl ?_
  refine mm_gi (D := G.1) (C := RX0) (T := TX0) (N0 := 8) hx hb hg in_X0 hown hK hP (t := 2) (by decide) rfl rfl 7 (by decide) (hg _ k_0) (fun _ h9 => h9) rfl d_X0_make_224 ?_
  refine lv_iconst (v := 1) hx hb d_X0_make_227 (by decide) ?_
  refine lv_iadd hx hb d_X0_make_228 ?_
  refine mm_pi (D := G.1) (C := RX0) (T := TX0) (N0 := 8) (ty := .int) hx hb hg in_X0 tyX0 tyX0_ok nmX0 hown hK hP hD hS (t := 2) (by decide) rfl rfl 7 (by decide) (hg _ k_0) (fun _ h9 => h9) rfl (by decide +kernel) rfl rfl rfl d_X0_make_229 (fun H locs hP hD hS => ?_)
  refine lv_iload hx hb d_X0_make_232 (lv_at hl 5 rfl) ?_
  exact W.iret (v := x9) hx hb hr (fun t ht hW => ⟨⟨x9, ((mm_uI I85 2 7 ((I85 2 7) + 1)), L86), rfl, hv, mm_mv ht hP⟩, hS.F ht⟩) hS.2.2 d_X0_make_234
set_option maxHeartbeats 4000000 in
set_option maxRecDepth 100000 in
theorem w_X0_make_67 {p : Program} {l : Launch} {e : Env} {s : State} {m : MethodId} {args : Array Value} {below : List Frame} {meth : Method} {c : Code} {G : mm_G} (hcx : mm_cx c_X0_make (some .int) 11 RX0 G p s m args meth c) (x1 : Int32) (x2 : Int32) (x3 : Int32) (x4 : Int32) (x5 : Int32) (x6 : Int32) (xs0 : Int32) (I : mm_I) (L : mm_L) (Q : Int32 → mm_I → mm_L → Prop)  (hv : vc_X0_make_67 x1 x2 x3 x4 x5 x6 xs0 I L Q) {H : Heap} {locs : List Loc} (hP : mm_PW G I L H) (hD : mm_DW G I L) (hS : va_S G.2.2.2.1 s.heap H locs) {ls : Array Slot} (hl : lv_has ls 11 [(0, .ref (G.2.2.1 2)), (1, .int x1), (2, .int x2), (3, .int x3), (4, .int x4), (5, .int x5), (6, .int x6)]) : W p l e (headSpec w_X0_make rm_X0_make).room s m args below meth c H locs 0 0 (MQ below (mm_qi G Q) args s 0 0 G.2.2.2.1) (F0 m 67 ls [.int xs0]) := by
  obtain ⟨hx, hb, hr, hlocks, hml, hown, hg, hK, hC⟩ := id hcx
  unfold vc_X0_make_67 at hv
  refine lv_istore (lv' := [(7, .int xs0), (0, .ref (G.2.2.1 2)), (1, .int x1), (2, .int x2), (3, .int x3), (4, .int x4), (5, .int x5), (6, .int x6)]) hx hb d_X0_make_67 hl (by decide) rfl (fun ls hl => ?_)
  refine lv_iconst (v := 1) hx hb d_X0_make_69 (by decide) ?_
  refine lv_aload_n hx hb d_X0_make_70 rfl (lv_at hl 1 rfl) ?_
  refine lv_iload hx hb d_X0_make_71 (lv_at hl 6 rfl) ?_
  refine va_calli (va_runV (As := [.int x5]) (rest := [.int 1]) ⟨hx, hb, hml, hown, hg⟩ (m_X0_levelOf l G x5 I L _  hv) (cwV 1 hg (mm_gV k_25 k_26 k_27 k_6 kc_X0_levelOf) rfl rfl rfl (by decide +kernel) ⟨Nat.le_of_ble_eq_true rfl, Nat.le_of_ble_eq_true rfl⟩) ⟨mm_blind, mm_recv hK hP (t := 2) (by decide) rfl rfl, fun U hU hW => mm_call hP hK hD hC hU hS hW⟩ rfl rfl hl.1 rfl (lv_room (Nat.le_of_ble_eq_true rfl)) d_X0_make_73 ⟨Nat.zero_le _, Nat.zero_le _⟩) hS (fun q _ h => h) (fun q h => h) (fun r63 u t H locs ht hvm hv hP hz1 hk1 hS => ?_)
  obtain ⟨I61, L62⟩ := u
  dsimp only at hv hP
  rw [ht] at hP
  have hD : mm_DW G I61 L62 := mm_D_any hD
  refine lv_aload_n hx hb d_X0_make_76 rfl (lv_at hl 1 rfl) ?_
  refine lv_iload hx hb d_X0_make_77 (lv_at hl 7 rfl) ?_
  refine va_calli (va_runV (As := [.int x6]) (rest := [.int r63, .int 1]) ⟨hx, hb, hml, hown, hg⟩ (m_X0_levelOf l G x6 I61 L62 _  hv) (cwV 1 hg (mm_gV k_25 k_26 k_27 k_6 kc_X0_levelOf) rfl rfl rfl (by decide +kernel) ⟨Nat.le_of_ble_eq_true rfl, Nat.le_of_ble_eq_true rfl⟩) ⟨mm_blind, mm_recv hK hP (t := 2) (by decide) rfl rfl, fun U hU hW => mm_call hP hK hD hC hU hS hW⟩ rfl rfl hl.1 rfl (lv_room (Nat.le_of_ble_eq_true rfl)) d_X0_make_79 ⟨Nat.zero_le _, Nat.zero_le _⟩) hS (fun q _ h => h) (fun q h => h) (fun r66 u t H locs ht hvm hv hP hz1 hk1 hS => ?_)
  obtain ⟨I64, L65⟩ := u
  dsimp only at hv hP
  rw [ht] at hP
  have hD : mm_DW G I64 L65 := mm_D_any hD
  refine lv_aload_n hx hb d_X0_make_82 rfl (lv_at hl 1 rfl) ?_
  refine lv_iload hx hb d_X0_make_83 (lv_at hl 0 rfl) ?_
  refine va_calli (va_runV (As := [.int xs0]) (rest := [.int r66, .int r63, .int 1]) ⟨hx, hb, hml, hown, hg⟩ (m_X0_levelOf l G xs0 I64 L65 _  hv) (cwV 1 hg (mm_gV k_25 k_26 k_27 k_6 kc_X0_levelOf) rfl rfl rfl (by decide +kernel) ⟨Nat.le_of_ble_eq_true rfl, Nat.le_of_ble_eq_true rfl⟩) ⟨mm_blind, mm_recv hK hP (t := 2) (by decide) rfl rfl, fun U hU hW => mm_call hP hK hD hC hU hS hW⟩ rfl rfl hl.1 rfl (lv_room (Nat.le_of_ble_eq_true rfl)) d_X0_make_85 ⟨Nat.zero_le _, Nat.zero_le _⟩) hS (fun q _ h => h) (fun q h => h) (fun r69 u t H locs ht hvm hv hP hz1 hk1 hS => ?_)
  obtain ⟨I67, L68⟩ := u
  dsimp only at hv hP
  rw [ht] at hP
  have hD : mm_DW G I67 L68 := mm_D_any hD
  refine va_mmax hx hb (by rw [hml]; exact hl.1.symm) hown (hg _ k_18) (hg _ k_19) (hg _ k_20) (hg _ kc_max) (Nat.le_of_ble_eq_true rfl) (Nat.le_of_ble_eq_true rfl) (Nat.zero_le _) (Nat.zero_le _) d_X0_make_88 ?_
  refine va_mmax hx hb (by rw [hml]; exact hl.1.symm) hown (hg _ k_18) (hg _ k_19) (hg _ k_20) (hg _ kc_max) (Nat.le_of_ble_eq_true rfl) (Nat.le_of_ble_eq_true rfl) (Nat.zero_le _) (Nat.zero_le _) d_X0_make_91 ?_
  refine lv_iadd hx hb d_X0_make_94 ?_
  refine lv_istore (lv' := [(8, .int (1 + (if r63 < (if r66 < r69 then r69 else r66) then (if r66 < r69 then r69 else r66) else r63))), (7, .int xs0), (0, .ref (G.2.2.1 2)), (1, .int x1), (2, .int x2), (3, .int x3), (4, .int x4), (5, .int x5), (6, .int x6)]) hx hb d_X0_make_95 hl (by decide) rfl (fun ls hl => ?_)
  refine lv_iload hx hb d_X0_make_97 (lv_at hl 0 rfl) ?_
  refine lv_bipush (v := 10) hx hb d_X0_make_99 (by decide) ?_
  refine lv_icmp_le (tgt := 106) hx hb d_X0_make_101 (by decide) (fun hc => ?_) (fun hc => ?_)
  · have hv := hv.1 hc
    refine lv_aload_n hx hb d_X0_make_106 rfl (lv_at hl 2 rfl) ?_
    refine mm_gi (D := G.1) (C := RX0) (T := TX0) (N0 := 8) hx hb hg in_X0 hown hK hP (t := 2) (by decide) rfl rfl 7 (by decide) (hg _ k_0) (fun _ h9 => h9) rfl d_X0_make_107 ?_
    refine lv_bipush (v := 70) hx hb d_X0_make_110 (by decide) ?_
    refine lv_icmp_ne (tgt := 118) hx hb d_X0_make_112 (by decide) (fun hc => ?_) (fun hc => ?_)
    · have hv := hv.1 hc
      refine lv_aload_n hx hb d_X0_make_118 rfl (lv_at hl 2 rfl) ?_
      refine mm_gi (D := G.1) (C := RX0) (T := TX0) (N0 := 8) hx hb hg in_X0 hown hK hP (t := 2) (by decide) rfl rfl 7 (by decide) (hg _ k_0) (fun _ h9 => h9) rfl d_X0_make_119 ?_
      refine lv_istore (lv' := [(9, .int (I67 2 7)), (8, .int (1 + (if r63 < (if r66 < r69 then r69 else r66) then (if r66 < r69 then r69 else r66) else r63))), (7, .int xs0), (0, .ref (G.2.2.1 2)), (1, .int x1), (2, .int x2), (3, .int x3), (4, .int x4), (5, .int x5), (6, .int x6)]) hx hb d_X0_make_122 hl (by decide) rfl (fun ls hl => ?_)
      refine lv_aload_n hx hb d_X0_make_124 rfl (lv_at hl 3 rfl) ?_
      refine mm_gr (D := G.1) (C := RX0) (T := TX0) (N0 := 8) (r := 3) hx hb hg in_X0 hown hK hP (t := 2) (by decide) rfl rfl 0 (by decide) (hg _ k_21) (fun _ h9 => h9) rfl d_X0_make_125 ?_
      refine lv_iload hx hb d_X0_make_128 (lv_at hl 0 rfl) ?_
      refine lv_iload_n hx hb d_X0_make_130 rfl (lv_at hl 4 rfl) ?_
      obtain ⟨h70, hv⟩ := hv
      refine mm_iast (D := G.1) hx hb hK hP hD hS (t := 3) (by decide) rfl rfl h70 d_X0_make_131 (fun H locs hP hD hS => ?_)
      refine lv_aload_n hx hb d_X0_make_132 rfl (lv_at hl 3 rfl) ?_
      refine mm_gr (D := G.1) (C := RX0) (T := TX0) (N0 := 8) (r := 4) hx hb hg in_X0 hown hK hP (t := 2) (by decide) rfl rfl 1 (by decide) (hg _ k_22) (fun _ h9 => h9) rfl d_X0_make_133 ?_
      refine lv_iload hx hb d_X0_make_136 (lv_at hl 0 rfl) ?_
      refine lv_iload_n hx hb d_X0_make_138 rfl (lv_at hl 5 rfl) ?_
      obtain ⟨h71, hv⟩ := hv
      refine mm_iast (D := G.1) hx hb hK hP hD hS (t := 4) (by decide) rfl rfl h71 d_X0_make_139 (fun H locs hP hD hS => ?_)
      refine lv_aload_n hx hb d_X0_make_140 rfl (lv_at hl 3 rfl) ?_
      refine mm_gr (D := G.1) (C := RX0) (T := TX0) (N0 := 8) (r := 5) hx hb hg in_X0 hown hK hP (t := 2) (by decide) rfl rfl 2 (by decide) (hg _ k_23) (fun _ h9 => h9) rfl d_X0_make_141 ?_
      refine lv_iload hx hb d_X0_make_144 (lv_at hl 0 rfl) ?_
      refine lv_iload_n hx hb d_X0_make_146 rfl (lv_at hl 6 rfl) ?_
      obtain ⟨h72, hv⟩ := hv
      refine mm_iast (D := G.1) hx hb hK hP hD hS (t := 5) (by decide) rfl rfl h72 d_X0_make_147 (fun H locs hP hD hS => ?_)
      refine lv_aload_n hx hb d_X0_make_148 rfl (lv_at hl 3 rfl) ?_
      refine mm_gr (D := G.1) (C := RX0) (T := TX0) (N0 := 8) (r := 6) hx hb hg in_X0 hown hK hP (t := 2) (by decide) rfl rfl 3 (by decide) (hg _ k_24) (fun _ h9 => h9) rfl d_X0_make_149 ?_
      refine lv_iload hx hb d_X0_make_152 (lv_at hl 0 rfl) ?_
      refine lv_iload hx hb d_X0_make_154 (lv_at hl 7 rfl) ?_
      obtain ⟨h73, hv⟩ := hv
      refine mm_iast (D := G.1) hx hb hK hP hD hS (t := 6) (by decide) rfl rfl h73 d_X0_make_156 (fun H locs hP hD hS => ?_)
      refine lv_aload_n hx hb d_X0_make_157 rfl (lv_at hl 3 rfl) ?_
      refine mm_gr (D := G.1) (C := RX0) (T := TX0) (N0 := 8) (r := 7) hx hb hg in_X0 hown hK hP (t := 2) (by decide) rfl rfl 4 (by decide) (hg _ k_12) (fun _ h9 => h9) rfl d_X0_make_158 ?_
      refine lv_iload hx hb d_X0_make_161 (lv_at hl 0 rfl) ?_
      refine lv_iload hx hb d_X0_make_163 (lv_at hl 1 rfl) ?_
      obtain ⟨h74, hv⟩ := hv
      refine mm_iast (D := G.1) hx hb hK hP hD hS (t := 7) (by decide) rfl rfl h74 d_X0_make_165 (fun H locs hP hD hS => ?_)
      refine lv_iload_n hx hb d_X0_make_166 rfl (lv_at hl 4 rfl) ?_
      refine lv_iconst (v := 2) hx hb d_X0_make_167 (by decide) ?_
      refine lv_icmp_ne (tgt := 177) hx hb d_X0_make_168 (by decide) (fun hc => ?_) (fun hc => ?_)
      · have hv := hv.1 hc
        refine lv_iconst (v := 0) hx hb d_X0_make_177 (by decide) ?_
        exact w_X0_make_178 hcx x5 x6 xs0 (I67 2 7) 0 (mm_uI (mm_uI (mm_uI (mm_uI (mm_uI I67 3 ((I67 2 7)).toNatClampNeg x1) 4 ((I67 2 7)).toNatClampNeg x2) 5 ((I67 2 7)).toNatClampNeg x3) 6 ((I67 2 7)).toNatClampNeg x4) 7 ((I67 2 7)).toNatClampNeg (1 + (if r63 < (if r66 < r69 then r69 else r66) then (if r66 < r69 then r69 else r66) else r63))) L68 Q  hv hP hD hS (lv_sub hl [3, 8, 9, 2, 0] rfl)
      · have hv := hv.2 hc
        refine lv_iload_n hx hb d_X0_make_171 rfl (lv_at hl 5 rfl) ?_
        refine lv_iconst (v := 1) hx hb d_X0_make_172 (by decide) ?_
        refine lv_iadd hx hb d_X0_make_173 ?_
        refine lv_goto (tgt := 178) hx hb d_X0_make_174 (by decide) ?_
        exact w_X0_make_178 hcx x5 x6 xs0 (I67 2 7) (x2 + 1) (mm_uI (mm_uI (mm_uI (mm_uI (mm_uI I67 3 ((I67 2 7)).toNatClampNeg x1) 4 ((I67 2 7)).toNatClampNeg x2) 5 ((I67 2 7)).toNatClampNeg x3) 6 ((I67 2 7)).toNatClampNeg x4) 7 ((I67 2 7)).toNatClampNeg (1 + (if r63 < (if r66 < r69 then r69 else r66) then (if r66 < r69 then r69 else r66) else r63))) L68 Q  hv hP hD hS (lv_sub hl [3, 8, 9, 2, 0] rfl)
    · have hv := hv.2 hc
      refine lv_bipush (v := (-2)) hx hb d_X0_make_115 (by decide) ?_
      exact W.iret (v := (-2)) hx hb hr (fun t ht hW => ⟨⟨(-2), (I67, L68), rfl, hv, mm_mv ht hP⟩, hS.F ht⟩) hS.2.2 d_X0_make_117
  · have hv := hv.2 hc
    refine lv_iconst (v := (-1)) hx hb d_X0_make_104 (by decide) ?_
    exact W.iret (v := (-1)) hx hb hr (fun t ht hW => ⟨⟨(-1), (I67, L68), rfl, hv, mm_mv ht hP⟩, hS.F ht⟩) hS.2.2 d_X0_make_105
set_option maxHeartbeats 4000000 in
set_option maxRecDepth 100000 in
theorem w_X0_make_51 {p : Program} {l : Launch} {e : Env} {s : State} {m : MethodId} {args : Array Value} {below : List Frame} {meth : Method} {c : Code} {G : mm_G} (hcx : mm_cx c_X0_make (some .int) 11 RX0 G p s m args meth c) (x1 : Int32) (x2 : Int32) (x3 : Int32) (x4 : Int32) (x5 : Int32) (xs0 : Int32) (I : mm_I) (L : mm_L) (Q : Int32 → mm_I → mm_L → Prop)  (hv : vc_X0_make_51 x1 x2 x3 x4 x5 xs0 I L Q) {H : Heap} {locs : List Loc} (hP : mm_PW G I L H) (hD : mm_DW G I L) (hS : va_S G.2.2.2.1 s.heap H locs) {ls : Array Slot} (hl : lv_has ls 11 [(0, .ref (G.2.2.1 2)), (1, .int x1), (2, .int x2), (3, .int x3), (4, .int x4), (5, .int x5)]) : W p l e (headSpec w_X0_make rm_X0_make).room s m args below meth c H locs 0 0 (MQ below (mm_qi G Q) args s 0 0 G.2.2.2.1) (F0 m 51 ls [.int xs0]) := by
  obtain ⟨hx, hb, hr, hlocks, hml, hown, hg, hK, hC⟩ := id hcx
  unfold vc_X0_make_51 at hv
  refine lv_istore (lv' := [(6, .int xs0), (0, .ref (G.2.2.1 2)), (1, .int x1), (2, .int x2), (3, .int x3), (4, .int x4), (5, .int x5)]) hx hb d_X0_make_51 hl (by decide) rfl (fun ls hl => ?_)
  refine lv_iload_n hx hb d_X0_make_53 rfl (lv_at hl 2 rfl) ?_
  refine lv_iconst (v := 4) hx hb d_X0_make_54 (by decide) ?_
  refine va_calli (va_runS (As := [.int x1, .int 4]) (rest := []) ⟨hx, hb, hml, hown, hg⟩ (m_X0_takesNode l G x1 4 I L _  hv) (va_cwS 2 hg (mm_gS k_7 k_8 k_6 kc_X0_takesNode) rfl rfl rfl (by decide +kernel) ⟨Nat.le_of_ble_eq_true rfl, Nat.le_of_ble_eq_true rfl⟩) ⟨mm_blind, fun U hU hW => mm_call hP hK hD hC hU hS hW⟩ rfl rfl hl.1 rfl (lv_room (Nat.le_of_ble_eq_true rfl)) d_X0_make_55 ⟨Nat.zero_le _, Nat.zero_le _⟩) hS (fun q _ h => h) (fun q h => h) (fun r60 u t H locs ht hvm hv hP hz1 hk1 hS => ?_)
  obtain ⟨I58, L59⟩ := u
  dsimp only at hv hP
  rw [ht] at hP
  have hD : mm_DW G I58 L59 := mm_D_any hD
  refine lv_if_eq (tgt := 66) hx hb d_X0_make_58 (by decide) (fun hc => ?_) (fun hc => ?_)
  · have hv := hv.1 hc
    refine lv_iconst (v := (-1)) hx hb d_X0_make_66 (by decide) ?_
    exact w_X0_make_67 hcx x1 x2 x3 x4 x5 xs0 (-1) I58 L59 Q  hv hP hD hS (lv_sub hl [1, 2, 3, 4, 5, 6, 0] rfl)
  · have hv := hv.2 hc
    refine lv_iload hx hb d_X0_make_61 (lv_at hl 5 rfl) ?_
    refine lv_goto (tgt := 67) hx hb d_X0_make_63 (by decide) ?_
    exact w_X0_make_67 hcx x1 x2 x3 x4 x5 xs0 x4 I58 L59 Q  hv hP hD hS (lv_sub hl [1, 2, 3, 4, 5, 6, 0] rfl)
set_option maxHeartbeats 4000000 in
set_option maxRecDepth 100000 in
theorem w_X0_make_36 {p : Program} {l : Launch} {e : Env} {s : State} {m : MethodId} {args : Array Value} {below : List Frame} {meth : Method} {c : Code} {G : mm_G} (hcx : mm_cx c_X0_make (some .int) 11 RX0 G p s m args meth c) (x1 : Int32) (x2 : Int32) (x3 : Int32) (x4 : Int32) (xs0 : Int32) (I : mm_I) (L : mm_L) (Q : Int32 → mm_I → mm_L → Prop)  (hv : vc_X0_make_36 x1 x2 x3 x4 xs0 I L Q) {H : Heap} {locs : List Loc} (hP : mm_PW G I L H) (hD : mm_DW G I L) (hS : va_S G.2.2.2.1 s.heap H locs) {ls : Array Slot} (hl : lv_has ls 11 [(0, .ref (G.2.2.1 2)), (1, .int x1), (2, .int x2), (3, .int x3), (4, .int x4)]) : W p l e (headSpec w_X0_make rm_X0_make).room s m args below meth c H locs 0 0 (MQ below (mm_qi G Q) args s 0 0 G.2.2.2.1) (F0 m 36 ls [.int xs0]) := by
  obtain ⟨hx, hb, hr, hlocks, hml, hown, hg, hK, hC⟩ := id hcx
  unfold vc_X0_make_36 at hv
  refine lv_istore (lv' := [(5, .int xs0), (0, .ref (G.2.2.1 2)), (1, .int x1), (2, .int x2), (3, .int x3), (4, .int x4)]) hx hb d_X0_make_36 hl (by decide) rfl (fun ls hl => ?_)
  refine lv_iload_n hx hb d_X0_make_38 rfl (lv_at hl 2 rfl) ?_
  refine lv_iconst (v := 2) hx hb d_X0_make_39 (by decide) ?_
  refine va_calli (va_runS (As := [.int x1, .int 2]) (rest := []) ⟨hx, hb, hml, hown, hg⟩ (m_X0_takesNode l G x1 2 I L _  hv) (va_cwS 2 hg (mm_gS k_7 k_8 k_6 kc_X0_takesNode) rfl rfl rfl (by decide +kernel) ⟨Nat.le_of_ble_eq_true rfl, Nat.le_of_ble_eq_true rfl⟩) ⟨mm_blind, fun U hU hW => mm_call hP hK hD hC hU hS hW⟩ rfl rfl hl.1 rfl (lv_room (Nat.le_of_ble_eq_true rfl)) d_X0_make_40 ⟨Nat.zero_le _, Nat.zero_le _⟩) hS (fun q _ h => h) (fun q h => h) (fun r57 u t H locs ht hvm hv hP hz1 hk1 hS => ?_)
  obtain ⟨I55, L56⟩ := u
  dsimp only at hv hP
  rw [ht] at hP
  have hD : mm_DW G I55 L56 := mm_D_any hD
  refine lv_if_eq (tgt := 50) hx hb d_X0_make_43 (by decide) (fun hc => ?_) (fun hc => ?_)
  · have hv := hv.1 hc
    refine lv_iconst (v := (-1)) hx hb d_X0_make_50 (by decide) ?_
    exact w_X0_make_51 hcx x1 x2 x3 x4 xs0 (-1) I55 L56 Q  hv hP hD hS (lv_sub hl [1, 2, 3, 4, 5, 0] rfl)
  · have hv := hv.2 hc
    refine lv_iload_n hx hb d_X0_make_46 rfl (lv_at hl 4 rfl) ?_
    refine lv_goto (tgt := 51) hx hb d_X0_make_47 (by decide) ?_
    exact w_X0_make_51 hcx x1 x2 x3 x4 xs0 x3 I55 L56 Q  hv hP hD hS (lv_sub hl [1, 2, 3, 4, 5, 0] rfl)
set_option maxHeartbeats 4000000 in
set_option maxRecDepth 100000 in
theorem w_X0_make_0 {p : Program} {l : Launch} {e : Env} {s : State} {m : MethodId} {args : Array Value} {below : List Frame} {meth : Method} {c : Code} {G : mm_G} (hcx : mm_cx c_X0_make (some .int) 11 RX0 G p s m args meth c) (x1 : Int32) (x2 : Int32) (x3 : Int32) (x4 : Int32) (I : mm_I) (L : mm_L) (Q : Int32 → mm_I → mm_L → Prop)  (hv : vc_X0_make_0 x1 x2 x3 x4 I L Q) {H : Heap} {locs : List Loc} (hP : mm_PW G I L H) (hD : mm_DW G I L) (hS : va_S G.2.2.2.1 s.heap H locs) {ls : Array Slot} (hl : lv_has ls 11 [(0, .ref (G.2.2.1 2)), (1, .int x1), (2, .int x2), (3, .int x3), (4, .int x4)]) : W p l e (headSpec w_X0_make rm_X0_make).room s m args below meth c H locs 0 0 (MQ below (mm_qi G Q) args s 0 0 G.2.2.2.1) (F0 m 0 ls []) := by
  obtain ⟨hx, hb, hr, hlocks, hml, hown, hg, hK, hC⟩ := id hcx
  unfold vc_X0_make_0 at hv
  refine lv_iload_n hx hb d_X0_make_0 rfl (lv_at hl 1 rfl) ?_
  refine lv_bipush (v := 20) hx hb d_X0_make_1 (by decide) ?_
  refine va_calli (va_runSN (As := [.int x1, .int 20]) (rest := []) ⟨hx, hb, hml, hown, hg⟩ (m_X6_within l G x1 20 I L _  hv) ⟨va_cnB 2 hg (mm_g1 kc_X6_within mm_GW_self) rfl rfl rfl (nw_4 hC.2.2) (hg _ k_1) (by decide +kernel) ⟨Nat.le_of_ble_eq_true rfl, Nat.le_of_ble_eq_true rfl⟩, hg _ k_2, trivial⟩ ⟨mm_blind, fun U hU hW => mm_call hP hK hD hC hU hS hW⟩ rfl rfl hl.1 rfl (lv_room (Nat.le_of_ble_eq_true rfl)) d_X0_make_3 ⟨Nat.zero_le _, Nat.zero_le _⟩) hS (fun q _ h => h) (fun q h => h) (fun r48 u t H locs ht hvm hv hP hz1 hk1 hS => ?_)
  obtain ⟨I46, L47⟩ := u
  dsimp only at hv hP
  rw [ht] at hP
  have hD : mm_DW G I46 L47 := mm_D_any hD
  refine lv_if_eq (tgt := 21) hx hb d_X0_make_6 (by decide) (fun hc => ?_) (fun hc => ?_)
  · have hv := hv.1 hc
    refine lv_iconst (v := (-1)) hx hb d_X0_make_21 (by decide) ?_
    exact W.iret (v := (-1)) hx hb hr (fun t ht hW => ⟨⟨(-1), (I46, L47), rfl, hv, mm_mv ht hP⟩, hS.F ht⟩) hS.2.2 d_X0_make_22
  · have hv := hv.2 hc
    refine lv_aload_n hx hb d_X0_make_9 rfl (lv_at hl 0 rfl) ?_
    refine lv_iload_n hx hb d_X0_make_10 rfl (lv_at hl 1 rfl) ?_
    refine lv_iload_n hx hb d_X0_make_11 rfl (lv_at hl 2 rfl) ?_
    refine lv_iload_n hx hb d_X0_make_12 rfl (lv_at hl 3 rfl) ?_
    refine lv_iload hx hb d_X0_make_13 (lv_at hl 4 rfl) ?_
    refine va_calli (va_runV (As := [.int x1, .int x2, .int x3, .int x4]) (rest := []) ⟨hx, hb, hml, hown, hg⟩ (m_X0_operandsFit l G x1 x2 x3 x4 I46 L47 _  hv) (cwV 4 hg (mm_gV k_15 k_16 k_17 k_6 kc_X0_operandsFit) rfl rfl rfl (by decide +kernel) ⟨Nat.le_of_ble_eq_true rfl, Nat.le_of_ble_eq_true rfl⟩) ⟨mm_blind, mm_recv hK hP (t := 2) (by decide) rfl rfl, fun U hU hW => mm_call hP hK hD hC hU hS hW⟩ rfl rfl hl.1 rfl (lv_room (Nat.le_of_ble_eq_true rfl)) d_X0_make_15 ⟨Nat.zero_le _, Nat.zero_le _⟩) hS (fun q _ h => h) (fun q h => h) (fun r51 u t H locs ht hvm hv hP hz1 hk1 hS => ?_)
    obtain ⟨I49, L50⟩ := u
    dsimp only at hv hP
    rw [ht] at hP
    have hD : mm_DW G I49 L50 := mm_D_any hD
    refine lv_if_ne (tgt := 23) hx hb d_X0_make_18 (by decide) (fun hc => ?_) (fun hc => ?_)
    · have hv := hv.1 hc
      refine lv_iload_n hx hb d_X0_make_23 rfl (lv_at hl 1 rfl) ?_
      refine lv_iconst (v := 1) hx hb d_X0_make_24 (by decide) ?_
      refine va_calli (va_runS (As := [.int x1, .int 1]) (rest := []) ⟨hx, hb, hml, hown, hg⟩ (m_X0_takesNode l G x1 1 I49 L50 _  hv) (va_cwS 2 hg (mm_gS k_7 k_8 k_6 kc_X0_takesNode) rfl rfl rfl (by decide +kernel) ⟨Nat.le_of_ble_eq_true rfl, Nat.le_of_ble_eq_true rfl⟩) ⟨mm_blind, fun U hU hW => mm_call hP hK hD hC hU hS hW⟩ rfl rfl hl.1 rfl (lv_room (Nat.le_of_ble_eq_true rfl)) d_X0_make_25 ⟨Nat.zero_le _, Nat.zero_le _⟩) hS (fun q _ h => h) (fun q h => h) (fun r54 u t H locs ht hvm hv hP hz1 hk1 hS => ?_)
      obtain ⟨I52, L53⟩ := u
      dsimp only at hv hP
      rw [ht] at hP
      have hD : mm_DW G I52 L53 := mm_D_any hD
      refine lv_if_eq (tgt := 35) hx hb d_X0_make_28 (by decide) (fun hc => ?_) (fun hc => ?_)
      · have hv := hv.1 hc
        refine lv_iconst (v := (-1)) hx hb d_X0_make_35 (by decide) ?_
        exact w_X0_make_36 hcx x1 x2 x3 x4 (-1) I52 L53 Q  hv hP hD hS (lv_sub hl [0, 1, 2, 3, 4] rfl)
      · have hv := hv.2 hc
        refine lv_iload_n hx hb d_X0_make_31 rfl (lv_at hl 2 rfl) ?_
        refine lv_goto (tgt := 36) hx hb d_X0_make_32 (by decide) ?_
        exact w_X0_make_36 hcx x1 x2 x3 x4 x2 I52 L53 Q  hv hP hD hS (lv_sub hl [0, 1, 2, 3, 4] rfl)
    · have hv := hv.2 hc
      refine lv_iconst (v := (-1)) hx hb d_X0_make_21 (by decide) ?_
      exact W.iret (v := (-1)) hx hb hr (fun t ht hW => ⟨⟨(-1), (I49, L50), rfl, hv, mm_mv ht hP⟩, hS.F ht⟩) hS.2.2 d_X0_make_22
abbrev vc_X0_make (x1 : Int32) (x2 : Int32) (x3 : Int32) (x4 : Int32) (I : mm_I) (L : mm_L) (Q : Int32 → mm_I → mm_L → Prop) : Prop := vc_X0_make_0 x1 x2 x3 x4 I L Q
set_option maxHeartbeats 4000000 in
set_option maxRecDepth 100000 in
theorem m_X0_make (l : Launch) (G : mm_G) (x1 : Int32) (x2 : Int32) (x3 : Int32) (x4 : Int32) (I : mm_I) (L : mm_L) (Q : Int32 → mm_I → mm_L → Prop)  (hv : vc_X0_make x1 x2 x3 x4 I L Q) : Met l y_X0_make w_X0_make rm_X0_make (mm_pre G [.ref (G.2.2.1 2), .int x1, .int x2, .int x3, .int x4] I L) (mm_qi G Q) 0 0 G.2.2.2.1 := by
  refine Met.ofW (cc := c_X0_make) (maxL := 11) (ret := (some .int)) (by decide) rfl ?_
  intro p e s m args below meth c s₁ B hml hw
  obtain ⟨rfl, hP, hK, hD, hC⟩ := hw
  have hts := atoms_spec (ws := w_X0_make) B.pre
  have hown : s.vm.findClass RX0 = some m.cls := findClass_of_methodNamed B.named
  have hl := lv_entry ([.ref (G.2.2.1 2), .int x1, .int x2, .int x3, .int x4]) (n := 11) (Nat.le_of_ble_eq_true rfl)
  rw [lg_entry_eq]
  generalize (lg_sl ([.ref (G.2.2.1 2), .int x1, .int x2, .int x3, .int x4]) ++ List.replicate (11 - (lg_sl ([.ref (G.2.2.1 2), .int x1, .int x2, .int x3, .int x4])).length) Slot.unset).toArray = ls at hl ⊢
  have hl : lv_has ls 11 [(0, .ref (G.2.2.1 2)), (1, .int x1), (2, .int x2), (3, .int x3), (4, .int x4)] := hl
  exact w_X0_make_0 ⟨B.exec, B.bytes, B.returns, B.notSynchronized, hml, hown, fun w h => hts w (List.mem_cons_of_mem _ h), hK, hC⟩ x1 x2 x3 x4 I L Q  hv hP hD va_S.rf hl
abbrev rm_X6_node : Room := { frames := 5, cells := 0, slots := 0, locals := 118 }
def vc_X6_node_0 (x1 : Int32) (x2 : Int32) (x3 : Int32) (x4 : Int32) (I : mm_I) (L : mm_L) (Q : Int32 → mm_I → mm_L → Prop) : Prop :=
  vc_X0_make x1 x2 x3 x4 I L (fun r90 I88 L89 => Q r90 I88 L89)
set_option maxHeartbeats 4000000 in
set_option maxRecDepth 100000 in
theorem w_X6_node_0 {p : Program} {l : Launch} {e : Env} {s : State} {m : MethodId} {args : Array Value} {below : List Frame} {meth : Method} {c : Code} {G : mm_G} (hcx : mm_cx c_X6_node (some .int) 5 RX6 G p s m args meth c) (x1 : Int32) (x2 : Int32) (x3 : Int32) (x4 : Int32) (I : mm_I) (L : mm_L) (Q : Int32 → mm_I → mm_L → Prop)  (hv : vc_X6_node_0 x1 x2 x3 x4 I L Q) {H : Heap} {locs : List Loc} (hP : mm_PW G I L H) (hD : mm_DW G I L) (hS : va_S G.2.2.2.1 s.heap H locs) {ls : Array Slot} (hl : lv_has ls 5 [(0, .ref (G.2.2.1 0)), (1, .int x1), (2, .int x2), (3, .int x3), (4, .int x4)]) : W p l e (headSpec w_X6_node rm_X6_node).room s m args below meth c H locs 0 0 (MQ below (mm_qi G Q) args s 0 0 G.2.2.2.1) (F0 m 0 ls []) := by
  obtain ⟨hx, hb, hr, hlocks, hml, hown, hg, hK, hC⟩ := id hcx
  unfold vc_X6_node_0 at hv
  refine lv_aload_n hx hb d_X6_node_0 rfl (lv_at hl 0 rfl) ?_
  refine mm_gr (D := G.1) (C := RX6) (T := TX6) (N0 := 3) (r := 1) hx hb hg in_X6 hown hK hP (t := 0) (by decide) rfl rfl 0 (by decide) (hg _ k_34) (fun _ h9 => h9) rfl d_X6_node_1 ?_
  refine mm_gr (D := G.1) (C := RX2) (T := TX2) (N0 := 4) (r := 2) hx hb hg in_X2 hown hK hP (t := 1) (by decide) rfl rfl 0 (by decide) (hg _ k_35) (fun _ h9 => h9) rfl d_X6_node_4 ?_
  refine lv_iload_n hx hb d_X6_node_7 rfl (lv_at hl 1 rfl) ?_
  refine lv_iload_n hx hb d_X6_node_8 rfl (lv_at hl 2 rfl) ?_
  refine lv_iload_n hx hb d_X6_node_9 rfl (lv_at hl 3 rfl) ?_
  refine lv_iload hx hb d_X6_node_10 (lv_at hl 4 rfl) ?_
  refine va_calli (va_runV (As := [.int x1, .int x2, .int x3, .int x4]) (rest := []) ⟨hx, hb, hml, hown, hg⟩ (m_X0_make l G x1 x2 x3 x4 I L _  hv) (cwV 4 hg (mm_gV k_36 k_37 k_38 k_6 kc_X0_make) rfl rfl rfl (by decide +kernel) ⟨Nat.le_of_ble_eq_true rfl, Nat.le_of_ble_eq_true rfl⟩) ⟨mm_blind, mm_recv hK hP (t := 2) (by decide) rfl rfl, fun U hU hW => mm_call hP hK hD hC hU hS hW⟩ rfl rfl hl.1 rfl (lv_room (Nat.le_of_ble_eq_true rfl)) d_X6_node_12 ⟨Nat.zero_le _, Nat.zero_le _⟩) hS (fun q _ h => h) (fun q h => h) (fun r90 u t H locs ht hvm hv hP hz1 hk1 hS => ?_)
  obtain ⟨I88, L89⟩ := u
  dsimp only at hv hP
  rw [ht] at hP
  have hD : mm_DW G I88 L89 := mm_D_any hD
  exact W.iret (v := r90) hx hb hr (fun t ht hW => ⟨⟨r90, (I88, L89), rfl, hv, mm_mv ht hP⟩, hS.F ht⟩) hS.2.2 d_X6_node_15
abbrev vc_X6_node (x1 : Int32) (x2 : Int32) (x3 : Int32) (x4 : Int32) (I : mm_I) (L : mm_L) (Q : Int32 → mm_I → mm_L → Prop) : Prop := vc_X6_node_0 x1 x2 x3 x4 I L Q
set_option maxHeartbeats 4000000 in
set_option maxRecDepth 100000 in
theorem m_X6_node (l : Launch) (G : mm_G) (x1 : Int32) (x2 : Int32) (x3 : Int32) (x4 : Int32) (I : mm_I) (L : mm_L) (Q : Int32 → mm_I → mm_L → Prop)  (hv : vc_X6_node x1 x2 x3 x4 I L Q) : Met l y_X6_node w_X6_node rm_X6_node (mm_pre G [.ref (G.2.2.1 0), .int x1, .int x2, .int x3, .int x4] I L) (mm_qi G Q) 0 0 G.2.2.2.1 := by
  refine Met.ofW (cc := c_X6_node) (maxL := 5) (ret := (some .int)) (by decide) rfl ?_
  intro p e s m args below meth c s₁ B hml hw
  obtain ⟨rfl, hP, hK, hD, hC⟩ := hw
  have hts := atoms_spec (ws := w_X6_node) B.pre
  have hown : s.vm.findClass RX6 = some m.cls := findClass_of_methodNamed B.named
  have hl := lv_entry ([.ref (G.2.2.1 0), .int x1, .int x2, .int x3, .int x4]) (n := 5) (Nat.le_of_ble_eq_true rfl)
  rw [lg_entry_eq]
  generalize (lg_sl ([.ref (G.2.2.1 0), .int x1, .int x2, .int x3, .int x4]) ++ List.replicate (5 - (lg_sl ([.ref (G.2.2.1 0), .int x1, .int x2, .int x3, .int x4])).length) Slot.unset).toArray = ls at hl ⊢
  have hl : lv_has ls 5 [(0, .ref (G.2.2.1 0)), (1, .int x1), (2, .int x2), (3, .int x3), (4, .int x4)] := hl
  exact w_X6_node_0 ⟨B.exec, B.bytes, B.returns, B.notSynchronized, hml, hown, fun w h => hts w (List.mem_cons_of_mem _ h), hK, hC⟩ x1 x2 x3 x4 I L Q  hv hP hD va_S.rf hl
abbrev rm_X6_define : Room := { frames := 2, cells := 0, slots := 0, locals := 42 }
def vc_X6_define_0 (x1 : Int32) (x2 : Int32) (I : mm_I) (L : mm_L) (Q : Int32 → mm_I → mm_L → Prop) : Prop :=
  vc_X6_within x1 8 I L (fun r93 I91 L92 => (r93 = 0 → Q (-1) I91 L92) ∧ (¬ r93 = 0 → vc_X0_has x2 I91 L92 (fun r96 I94 L95 => (r96 = 0 → Q (-1) I94 L95) ∧ (¬ r96 = 0 → vp_in x2 70 ∧ ((I94 8 x2.toNatClampNeg) ≤ x1 → vp_in x1 8 ∧ Q 0 (mm_uI I94 10 x1.toNatClampNeg x2) L95) ∧ (¬ (I94 8 x2.toNatClampNeg) ≤ x1 → Q (-1) I94 L95)))))
set_option maxHeartbeats 4000000 in
set_option maxRecDepth 100000 in
theorem w_X6_define_0 {p : Program} {l : Launch} {e : Env} {s : State} {m : MethodId} {args : Array Value} {below : List Frame} {meth : Method} {c : Code} {G : mm_G} (hcx : mm_cx c_X6_define (some .int) 3 RX6 G p s m args meth c) (x1 : Int32) (x2 : Int32) (I : mm_I) (L : mm_L) (Q : Int32 → mm_I → mm_L → Prop)  (hv : vc_X6_define_0 x1 x2 I L Q) {H : Heap} {locs : List Loc} (hP : mm_PW G I L H) (hD : mm_DW G I L) (hS : va_S G.2.2.2.1 s.heap H locs) {ls : Array Slot} (hl : lv_has ls 3 [(0, .ref (G.2.2.1 0)), (1, .int x1), (2, .int x2)]) : W p l e (headSpec w_X6_define rm_X6_define).room s m args below meth c H locs 0 0 (MQ below (mm_qi G Q) args s 0 0 G.2.2.2.1) (F0 m 0 ls []) := by
  obtain ⟨hx, hb, hr, hlocks, hml, hown, hg, hK, hC⟩ := id hcx
  unfold vc_X6_define_0 at hv
  refine lv_iload_n hx hb d_X6_define_0 rfl (lv_at hl 1 rfl) ?_
  refine lv_bipush (v := 8) hx hb d_X6_define_1 (by decide) ?_
  refine va_calli (va_runS (As := [.int x1, .int 8]) (rest := []) ⟨hx, hb, hml, hown, hg⟩ (m_X6_within l G x1 8 I L _  hv) (va_cwS 2 hg (mm_gS k_42 k_2 k_1 kc_X6_within) rfl rfl rfl (by decide +kernel) ⟨Nat.le_of_ble_eq_true rfl, Nat.le_of_ble_eq_true rfl⟩) ⟨mm_blind, fun U hU hW => mm_call hP hK hD hC hU hS hW⟩ rfl rfl hl.1 rfl (lv_room (Nat.le_of_ble_eq_true rfl)) d_X6_define_3 ⟨Nat.zero_le _, Nat.zero_le _⟩) hS (fun q _ h => h) (fun q h => h) (fun r93 u t H locs ht hvm hv hP hz1 hk1 hS => ?_)
  obtain ⟨I91, L92⟩ := u
  dsimp only at hv hP
  rw [ht] at hP
  have hD : mm_DW G I91 L92 := mm_D_any hD
  refine lv_if_eq (tgt := 39) hx hb d_X6_define_6 (by decide) (fun hc => ?_) (fun hc => ?_)
  · have hv := hv.1 hc
    refine lv_iconst (v := (-1)) hx hb d_X6_define_39 (by decide) ?_
    exact W.iret (v := (-1)) hx hb hr (fun t ht hW => ⟨⟨(-1), (I91, L92), rfl, hv, mm_mv ht hP⟩, hS.F ht⟩) hS.2.2 d_X6_define_40
  · have hv := hv.2 hc
    refine lv_aload_n hx hb d_X6_define_9 rfl (lv_at hl 0 rfl) ?_
    refine mm_gr (D := G.1) (C := RX6) (T := TX6) (N0 := 3) (r := 1) hx hb hg in_X6 hown hK hP (t := 0) (by decide) rfl rfl 0 (by decide) (hg _ k_34) (fun _ h9 => h9) rfl d_X6_define_10 ?_
    refine mm_gr (D := G.1) (C := RX2) (T := TX2) (N0 := 4) (r := 2) hx hb hg in_X2 hown hK hP (t := 1) (by decide) rfl rfl 0 (by decide) (hg _ k_35) (fun _ h9 => h9) rfl d_X6_define_13 ?_
    refine lv_iload_n hx hb d_X6_define_16 rfl (lv_at hl 2 rfl) ?_
    refine va_calli (va_runV (As := [.int x2]) (rest := []) ⟨hx, hb, hml, hown, hg⟩ (m_X0_has l G x2 I91 L92 _  hv) (cwV 1 hg (mm_gV k_41 k_4 k_5 k_6 kc_X0_has) rfl rfl rfl (by decide +kernel) ⟨Nat.le_of_ble_eq_true rfl, Nat.le_of_ble_eq_true rfl⟩) ⟨mm_blind, mm_recv hK hP (t := 2) (by decide) rfl rfl, fun U hU hW => mm_call hP hK hD hC hU hS hW⟩ rfl rfl hl.1 rfl (lv_room (Nat.le_of_ble_eq_true rfl)) d_X6_define_17 ⟨Nat.zero_le _, Nat.zero_le _⟩) hS (fun q _ h => h) (fun q h => h) (fun r96 u t H locs ht hvm hv hP hz1 hk1 hS => ?_)
    obtain ⟨I94, L95⟩ := u
    dsimp only at hv hP
    rw [ht] at hP
    have hD : mm_DW G I94 L95 := mm_D_any hD
    refine lv_if_eq (tgt := 39) hx hb d_X6_define_20 (by decide) (fun hc => ?_) (fun hc => ?_)
    · have hv := hv.1 hc
      refine lv_iconst (v := (-1)) hx hb d_X6_define_39 (by decide) ?_
      exact W.iret (v := (-1)) hx hb hr (fun t ht hW => ⟨⟨(-1), (I94, L95), rfl, hv, mm_mv ht hP⟩, hS.F ht⟩) hS.2.2 d_X6_define_40
    · have hv := hv.2 hc
      refine lv_aload_n hx hb d_X6_define_23 rfl (lv_at hl 0 rfl) ?_
      refine mm_gr (D := G.1) (C := RX6) (T := TX6) (N0 := 3) (r := 1) hx hb hg in_X6 hown hK hP (t := 0) (by decide) rfl rfl 0 (by decide) (hg _ k_34) (fun _ h9 => h9) rfl d_X6_define_24 ?_
      refine mm_gr (D := G.1) (C := RX2) (T := TX2) (N0 := 4) (r := 2) hx hb hg in_X2 hown hK hP (t := 1) (by decide) rfl rfl 0 (by decide) (hg _ k_35) (fun _ h9 => h9) rfl d_X6_define_27 ?_
      refine mm_gr (D := G.1) (C := RX0) (T := TX0) (N0 := 8) (r := 8) hx hb hg in_X0 hown hK hP (t := 2) (by decide) rfl rfl 5 (by decide) (hg _ k_39) (fun _ h9 => h9) rfl d_X6_define_30 ?_
      refine lv_iload_n hx hb d_X6_define_33 rfl (lv_at hl 2 rfl) ?_
      obtain ⟨h97, hv⟩ := hv
      refine mm_iald (D := G.1) hx hb hK hP (t := 8) (by decide) rfl rfl h97 d_X6_define_34 ?_
      refine lv_iload_n hx hb d_X6_define_35 rfl (lv_at hl 1 rfl) ?_
      refine lv_icmp_le (tgt := 41) hx hb d_X6_define_36 (by decide) (fun hc => ?_) (fun hc => ?_)
      · have hv := hv.1 hc
        refine lv_aload_n hx hb d_X6_define_41 rfl (lv_at hl 0 rfl) ?_
        refine mm_gr (D := G.1) (C := RX6) (T := TX6) (N0 := 3) (r := 1) hx hb hg in_X6 hown hK hP (t := 0) (by decide) rfl rfl 0 (by decide) (hg _ k_34) (fun _ h9 => h9) rfl d_X6_define_42 ?_
        refine mm_gr (D := G.1) (C := RX2) (T := TX2) (N0 := 4) (r := 10) hx hb hg in_X2 hown hK hP (t := 1) (by decide) rfl rfl 1 (by decide) (hg _ k_40) (fun _ h9 => h9) rfl d_X6_define_45 ?_
        refine lv_iload_n hx hb d_X6_define_48 rfl (lv_at hl 1 rfl) ?_
        refine lv_iload_n hx hb d_X6_define_49 rfl (lv_at hl 2 rfl) ?_
        obtain ⟨h98, hv⟩ := hv
        refine mm_iast (D := G.1) hx hb hK hP hD hS (t := 10) (by decide) rfl rfl h98 d_X6_define_50 (fun H locs hP hD hS => ?_)
        refine lv_iconst (v := 0) hx hb d_X6_define_51 (by decide) ?_
        exact W.iret (v := 0) hx hb hr (fun t ht hW => ⟨⟨0, ((mm_uI I94 10 x1.toNatClampNeg x2), L95), rfl, hv, mm_mv ht hP⟩, hS.F ht⟩) hS.2.2 d_X6_define_52
      · have hv := hv.2 hc
        refine lv_iconst (v := (-1)) hx hb d_X6_define_39 (by decide) ?_
        exact W.iret (v := (-1)) hx hb hr (fun t ht hW => ⟨⟨(-1), (I94, L95), rfl, hv, mm_mv ht hP⟩, hS.F ht⟩) hS.2.2 d_X6_define_40
abbrev vc_X6_define (x1 : Int32) (x2 : Int32) (I : mm_I) (L : mm_L) (Q : Int32 → mm_I → mm_L → Prop) : Prop := vc_X6_define_0 x1 x2 I L Q
set_option maxHeartbeats 4000000 in
set_option maxRecDepth 100000 in
theorem m_X6_define (l : Launch) (G : mm_G) (x1 : Int32) (x2 : Int32) (I : mm_I) (L : mm_L) (Q : Int32 → mm_I → mm_L → Prop)  (hv : vc_X6_define x1 x2 I L Q) : Met l y_X6_define w_X6_define rm_X6_define (mm_pre G [.ref (G.2.2.1 0), .int x1, .int x2] I L) (mm_qi G Q) 0 0 G.2.2.2.1 := by
  refine Met.ofW (cc := c_X6_define) (maxL := 3) (ret := (some .int)) (by decide) rfl ?_
  intro p e s m args below meth c s₁ B hml hw
  obtain ⟨rfl, hP, hK, hD, hC⟩ := hw
  have hts := atoms_spec (ws := w_X6_define) B.pre
  have hown : s.vm.findClass RX6 = some m.cls := findClass_of_methodNamed B.named
  have hl := lv_entry ([.ref (G.2.2.1 0), .int x1, .int x2]) (n := 3) (Nat.le_of_ble_eq_true rfl)
  rw [lg_entry_eq]
  generalize (lg_sl ([.ref (G.2.2.1 0), .int x1, .int x2]) ++ List.replicate (3 - (lg_sl ([.ref (G.2.2.1 0), .int x1, .int x2])).length) Slot.unset).toArray = ls at hl ⊢
  have hl : lv_has ls 3 [(0, .ref (G.2.2.1 0)), (1, .int x1), (2, .int x2)] := hl
  exact w_X6_define_0 ⟨B.exec, B.bytes, B.returns, B.notSynchronized, hml, hown, fun w h => hts w (List.mem_cons_of_mem _ h), hK, hC⟩ x1 x2 I L Q  hv hP hD va_S.rf hl
abbrev rm_X6_undefine : Room := { frames := 1, cells := 0, slots := 0, locals := 21 }
def vc_X6_undefine_0 (x1 : Int32) (I : mm_I) (L : mm_L) (Q : Int32 → mm_I → mm_L → Prop) : Prop :=
  vc_X6_within x1 8 I L (fun r101 I99 L100 => (¬ r101 = 0 → vp_in x1 8 ∧ Q 0 (mm_uI I99 10 x1.toNatClampNeg (-1)) L100) ∧ (r101 = 0 → Q (-1) I99 L100))
set_option maxHeartbeats 4000000 in
set_option maxRecDepth 100000 in
theorem w_X6_undefine_0 {p : Program} {l : Launch} {e : Env} {s : State} {m : MethodId} {args : Array Value} {below : List Frame} {meth : Method} {c : Code} {G : mm_G} (hcx : mm_cx c_X6_undefine (some .int) 2 RX6 G p s m args meth c) (x1 : Int32) (I : mm_I) (L : mm_L) (Q : Int32 → mm_I → mm_L → Prop)  (hv : vc_X6_undefine_0 x1 I L Q) {H : Heap} {locs : List Loc} (hP : mm_PW G I L H) (hD : mm_DW G I L) (hS : va_S G.2.2.2.1 s.heap H locs) {ls : Array Slot} (hl : lv_has ls 2 [(0, .ref (G.2.2.1 0)), (1, .int x1)]) : W p l e (headSpec w_X6_undefine rm_X6_undefine).room s m args below meth c H locs 0 0 (MQ below (mm_qi G Q) args s 0 0 G.2.2.2.1) (F0 m 0 ls []) := by
  obtain ⟨hx, hb, hr, hlocks, hml, hown, hg, hK, hC⟩ := id hcx
  unfold vc_X6_undefine_0 at hv
  refine lv_iload_n hx hb d_X6_undefine_0 rfl (lv_at hl 1 rfl) ?_
  refine lv_bipush (v := 8) hx hb d_X6_undefine_1 (by decide) ?_
  refine va_calli (va_runS (As := [.int x1, .int 8]) (rest := []) ⟨hx, hb, hml, hown, hg⟩ (m_X6_within l G x1 8 I L _  hv) (va_cwS 2 hg (mm_gS k_42 k_2 k_1 kc_X6_within) rfl rfl rfl (by decide +kernel) ⟨Nat.le_of_ble_eq_true rfl, Nat.le_of_ble_eq_true rfl⟩) ⟨mm_blind, fun U hU hW => mm_call hP hK hD hC hU hS hW⟩ rfl rfl hl.1 rfl (lv_room (Nat.le_of_ble_eq_true rfl)) d_X6_undefine_3 ⟨Nat.zero_le _, Nat.zero_le _⟩) hS (fun q _ h => h) (fun q h => h) (fun r101 u t H locs ht hvm hv hP hz1 hk1 hS => ?_)
  obtain ⟨I99, L100⟩ := u
  dsimp only at hv hP
  rw [ht] at hP
  have hD : mm_DW G I99 L100 := mm_D_any hD
  refine lv_if_ne (tgt := 11) hx hb d_X6_undefine_6 (by decide) (fun hc => ?_) (fun hc => ?_)
  · have hv := hv.1 hc
    refine lv_aload_n hx hb d_X6_undefine_11 rfl (lv_at hl 0 rfl) ?_
    refine mm_gr (D := G.1) (C := RX6) (T := TX6) (N0 := 3) (r := 1) hx hb hg in_X6 hown hK hP (t := 0) (by decide) rfl rfl 0 (by decide) (hg _ k_34) (fun _ h9 => h9) rfl d_X6_undefine_12 ?_
    refine mm_gr (D := G.1) (C := RX2) (T := TX2) (N0 := 4) (r := 10) hx hb hg in_X2 hown hK hP (t := 1) (by decide) rfl rfl 1 (by decide) (hg _ k_40) (fun _ h9 => h9) rfl d_X6_undefine_15 ?_
    refine lv_iload_n hx hb d_X6_undefine_18 rfl (lv_at hl 1 rfl) ?_
    refine lv_iconst (v := (-1)) hx hb d_X6_undefine_19 (by decide) ?_
    obtain ⟨h102, hv⟩ := hv
    refine mm_iast (D := G.1) hx hb hK hP hD hS (t := 10) (by decide) rfl rfl h102 d_X6_undefine_20 (fun H locs hP hD hS => ?_)
    refine lv_iconst (v := 0) hx hb d_X6_undefine_21 (by decide) ?_
    exact W.iret (v := 0) hx hb hr (fun t ht hW => ⟨⟨0, ((mm_uI I99 10 x1.toNatClampNeg (-1)), L100), rfl, hv, mm_mv ht hP⟩, hS.F ht⟩) hS.2.2 d_X6_undefine_22
  · have hv := hv.2 hc
    refine lv_iconst (v := (-1)) hx hb d_X6_undefine_9 (by decide) ?_
    exact W.iret (v := (-1)) hx hb hr (fun t ht hW => ⟨⟨(-1), (I99, L100), rfl, hv, mm_mv ht hP⟩, hS.F ht⟩) hS.2.2 d_X6_undefine_10
abbrev vc_X6_undefine (x1 : Int32) (I : mm_I) (L : mm_L) (Q : Int32 → mm_I → mm_L → Prop) : Prop := vc_X6_undefine_0 x1 I L Q
set_option maxHeartbeats 4000000 in
set_option maxRecDepth 100000 in
theorem m_X6_undefine (l : Launch) (G : mm_G) (x1 : Int32) (I : mm_I) (L : mm_L) (Q : Int32 → mm_I → mm_L → Prop)  (hv : vc_X6_undefine x1 I L Q) : Met l y_X6_undefine w_X6_undefine rm_X6_undefine (mm_pre G [.ref (G.2.2.1 0), .int x1] I L) (mm_qi G Q) 0 0 G.2.2.2.1 := by
  refine Met.ofW (cc := c_X6_undefine) (maxL := 2) (ret := (some .int)) (by decide) rfl ?_
  intro p e s m args below meth c s₁ B hml hw
  obtain ⟨rfl, hP, hK, hD, hC⟩ := hw
  have hts := atoms_spec (ws := w_X6_undefine) B.pre
  have hown : s.vm.findClass RX6 = some m.cls := findClass_of_methodNamed B.named
  have hl := lv_entry ([.ref (G.2.2.1 0), .int x1]) (n := 2) (Nat.le_of_ble_eq_true rfl)
  rw [lg_entry_eq]
  generalize (lg_sl ([.ref (G.2.2.1 0), .int x1]) ++ List.replicate (2 - (lg_sl ([.ref (G.2.2.1 0), .int x1])).length) Slot.unset).toArray = ls at hl ⊢
  have hl : lv_has ls 2 [(0, .ref (G.2.2.1 0)), (1, .int x1)] := hl
  exact w_X6_undefine_0 ⟨B.exec, B.bytes, B.returns, B.notSynchronized, hml, hown, fun w h => hts w (List.mem_cons_of_mem _ h), hK, hC⟩ x1 I L Q  hv hP hD va_S.rf hl
abbrev rm_X4_addStep : Room := { frames := 0, cells := 0, slots := 0, locals := 0 }
def vc_X4_addStep_22 (p0 : Nat) (x1 : Int32) (x2 : Int32) (xs0 : Int32) (I : mm_I) (L : mm_L) (Q : Int32 → mm_I → mm_L → Prop) : Prop :=
  (x1 ≤ xs0 → Q (-1) I L) ∧ (¬ x1 ≤ xs0 → (x2 < 0 → Q (-1) I L) ∧ (¬ x2 < 0 → (x2 ≤ 1000 → (¬ (I (18 + p0) 2) = 5 → vp_in (I (18 + p0) 2) 5 ∧ vp_in ((mm_uI I (20 + p0) ((I (18 + p0) 2)).toNatClampNeg x1) (18 + p0) 2) 5 ∧ Q ((mm_uI (mm_uI (mm_uI I (20 + p0) ((I (18 + p0) 2)).toNatClampNeg x1) (22 + p0) (((mm_uI I (20 + p0) ((I (18 + p0) 2)).toNatClampNeg x1) (18 + p0) 2)).toNatClampNeg x2) (18 + p0) 2 (((mm_uI (mm_uI I (20 + p0) ((I (18 + p0) 2)).toNatClampNeg x1) (22 + p0) (((mm_uI I (20 + p0) ((I (18 + p0) 2)).toNatClampNeg x1) (18 + p0) 2)).toNatClampNeg x2) (18 + p0) 2) + 1)) (18 + p0) 2) (mm_uI (mm_uI (mm_uI I (20 + p0) ((I (18 + p0) 2)).toNatClampNeg x1) (22 + p0) (((mm_uI I (20 + p0) ((I (18 + p0) 2)).toNatClampNeg x1) (18 + p0) 2)).toNatClampNeg x2) (18 + p0) 2 (((mm_uI (mm_uI I (20 + p0) ((I (18 + p0) 2)).toNatClampNeg x1) (22 + p0) (((mm_uI I (20 + p0) ((I (18 + p0) 2)).toNatClampNeg x1) (18 + p0) 2)).toNatClampNeg x2) (18 + p0) 2) + 1)) L) ∧ ((I (18 + p0) 2) = 5 → Q (-2) I L)) ∧ (¬ x2 ≤ 1000 → Q (-1) I L)))
def vc_X4_addStep_0 (p0 : Nat) (x1 : Int32) (x2 : Int32) (I : mm_I) (L : mm_L) (Q : Int32 → mm_I → mm_L → Prop) : Prop :=
  ((I (18 + p0) 2) ≤ 0 → vc_X4_addStep_22 p0 x1 x2 0 I L Q) ∧ (¬ (I (18 + p0) 2) ≤ 0 → vp_in ((I (18 + p0) 2) - 1) 5 ∧ vc_X4_addStep_22 p0 x1 x2 (I (20 + p0) (((I (18 + p0) 2) - 1)).toNatClampNeg) I L Q)
set_option maxHeartbeats 4000000 in
set_option maxRecDepth 100000 in
theorem w_X4_addStep_22 {p : Program} {l : Launch} {e : Env} {s : State} {m : MethodId} {args : Array Value} {below : List Frame} {meth : Method} {c : Code} {G : mm_G} (hcx : mm_cx c_X4_addStep (some .int) 4 RX4 G p s m args meth c) (p0 : Nat) (x1 : Int32) (x2 : Int32) (xs0 : Int32) (I : mm_I) (L : mm_L) (Q : Int32 → mm_I → mm_L → Prop) (hp0 : p0 < 2) (hv : vc_X4_addStep_22 p0 x1 x2 xs0 I L Q) {H : Heap} {locs : List Loc} (hP : mm_PW G I L H) (hD : mm_DW G I L) (hS : va_S G.2.2.2.1 s.heap H locs) {ls : Array Slot} (hl : lv_has ls 4 [(0, .ref (G.2.2.1 (18 + p0))), (1, .int x1), (2, .int x2)]) : W p l e (headSpec w_X4_addStep rm_X4_addStep).room s m args below meth c H locs 0 0 (MQ below (mm_qi G Q) args s 0 0 G.2.2.2.1) (F0 m 22 ls [.int xs0]) := by
  obtain ⟨hx, hb, hr, hlocks, hml, hown, hg, hK, hC⟩ := id hcx
  unfold vc_X4_addStep_22 at hv
  refine lv_istore_n (lv' := [(3, .int xs0), (0, .ref (G.2.2.1 (18 + p0))), (1, .int x1), (2, .int x2)]) hx hb d_X4_addStep_22 rfl hl (by decide) rfl (fun ls hl => ?_)
  refine lv_iload_n hx hb d_X4_addStep_23 rfl (lv_at hl 2 rfl) ?_
  refine lv_iload_n hx hb d_X4_addStep_24 rfl (lv_at hl 0 rfl) ?_
  refine lv_icmp_le (tgt := 39) hx hb d_X4_addStep_25 (by decide) (fun hc => ?_) (fun hc => ?_)
  · have hv := hv.1 hc
    refine lv_iconst (v := (-1)) hx hb d_X4_addStep_39 (by decide) ?_
    exact W.iret (v := (-1)) hx hb hr (fun t ht hW => ⟨⟨(-1), (I, L), rfl, hv, mm_mv ht hP⟩, hS.F ht⟩) hS.2.2 d_X4_addStep_40
  · have hv := hv.2 hc
    refine lv_iload_n hx hb d_X4_addStep_28 rfl (lv_at hl 3 rfl) ?_
    refine lv_if_lt (tgt := 39) hx hb d_X4_addStep_29 (by decide) (fun hc => ?_) (fun hc => ?_)
    · have hv := hv.1 hc
      refine lv_iconst (v := (-1)) hx hb d_X4_addStep_39 (by decide) ?_
      exact W.iret (v := (-1)) hx hb hr (fun t ht hW => ⟨⟨(-1), (I, L), rfl, hv, mm_mv ht hP⟩, hS.F ht⟩) hS.2.2 d_X4_addStep_40
    · have hv := hv.2 hc
      refine lv_iload_n hx hb d_X4_addStep_32 rfl (lv_at hl 3 rfl) ?_
      refine lv_sipush (v := 1000) hx hb d_X4_addStep_33 (by decide) ?_
      refine lv_icmp_le (tgt := 41) hx hb d_X4_addStep_36 (by decide) (fun hc => ?_) (fun hc => ?_)
      · have hv := hv.1 hc
        refine lv_aload_n hx hb d_X4_addStep_41 rfl (lv_at hl 1 rfl) ?_
        refine mm_gi (D := G.1) (C := RX4) (T := TX4) (N0 := 3) hx hb hg in_X4 hown hK hP (t := (18 + p0)) (ly_N_TB hp0) (ly_TB hp0) rfl 2 (by decide) (hg _ k_43) (fun _ h9 => h9) rfl d_X4_addStep_42 ?_
        refine lv_iconst (v := 5) hx hb d_X4_addStep_45 (by decide) ?_
        refine lv_icmp_ne (tgt := 52) hx hb d_X4_addStep_46 (by decide) (fun hc => ?_) (fun hc => ?_)
        · have hv := hv.1 hc
          refine lv_aload_n hx hb d_X4_addStep_52 rfl (lv_at hl 1 rfl) ?_
          refine mm_gr (D := G.1) (C := RX4) (T := TX4) (N0 := 3) (r := (20 + p0)) hx hb hg in_X4 hown hK hP (t := (18 + p0)) (ly_N_TB hp0) (ly_TB hp0) rfl 0 (by decide) (hg _ k_44) (fun _ h9 => h9) rfl d_X4_addStep_53 ?_
          refine lv_aload_n hx hb d_X4_addStep_56 rfl (lv_at hl 1 rfl) ?_
          refine mm_gi (D := G.1) (C := RX4) (T := TX4) (N0 := 3) hx hb hg in_X4 hown hK hP (t := (18 + p0)) (ly_N_TB hp0) (ly_TB hp0) rfl 2 (by decide) (hg _ k_43) (fun _ h9 => h9) rfl d_X4_addStep_57 ?_
          refine lv_iload_n hx hb d_X4_addStep_60 rfl (lv_at hl 2 rfl) ?_
          obtain ⟨h104, hv⟩ := hv
          refine mm_iast (D := G.1) hx hb hK hP hD hS (t := (20 + p0)) (ly_N_LIM hp0) (ly_LIM hp0) rfl h104 d_X4_addStep_61 (fun H locs hP hD hS => ?_)
          refine lv_aload_n hx hb d_X4_addStep_62 rfl (lv_at hl 1 rfl) ?_
          refine mm_gr (D := G.1) (C := RX4) (T := TX4) (N0 := 3) (r := (22 + p0)) hx hb hg in_X4 hown hK hP (t := (18 + p0)) (ly_N_TB hp0) (ly_TB hp0) rfl 1 (by decide) (hg _ k_45) (fun _ h9 => h9) rfl d_X4_addStep_63 ?_
          refine lv_aload_n hx hb d_X4_addStep_66 rfl (lv_at hl 1 rfl) ?_
          refine mm_gi (D := G.1) (C := RX4) (T := TX4) (N0 := 3) hx hb hg in_X4 hown hK hP (t := (18 + p0)) (ly_N_TB hp0) (ly_TB hp0) rfl 2 (by decide) (hg _ k_43) (fun _ h9 => h9) rfl d_X4_addStep_67 ?_
          refine lv_iload_n hx hb d_X4_addStep_70 rfl (lv_at hl 3 rfl) ?_
          obtain ⟨h105, hv⟩ := hv
          refine mm_iast (D := G.1) hx hb hK hP hD hS (t := (22 + p0)) (ly_N_RAT hp0) (ly_RAT hp0) rfl h105 d_X4_addStep_71 (fun H locs hP hD hS => ?_)
          refine lv_aload_n hx hb d_X4_addStep_72 rfl (lv_at hl 1 rfl) ?_
          refine lv_dup hx hb d_X4_addStep_73 rfl ?_
          refine mm_gi (D := G.1) (C := RX4) (T := TX4) (N0 := 3) hx hb hg in_X4 hown hK hP (t := (18 + p0)) (ly_N_TB hp0) (ly_TB hp0) rfl 2 (by decide) (hg _ k_43) (fun _ h9 => h9) rfl d_X4_addStep_74 ?_
          refine lv_iconst (v := 1) hx hb d_X4_addStep_77 (by decide) ?_
          refine lv_iadd hx hb d_X4_addStep_78 ?_
          refine mm_pi (D := G.1) (C := RX4) (T := TX4) (N0 := 3) (ty := .int) hx hb hg in_X4 tyX4 tyX4_ok nmX4 hown hK hP hD hS (t := (18 + p0)) (ly_N_TB hp0) (ly_TB hp0) rfl 2 (by decide) (hg _ k_43) (fun _ h9 => h9) rfl (by decide +kernel) rfl rfl rfl d_X4_addStep_79 (fun H locs hP hD hS => ?_)
          refine lv_aload_n hx hb d_X4_addStep_82 rfl (lv_at hl 1 rfl) ?_
          refine mm_gi (D := G.1) (C := RX4) (T := TX4) (N0 := 3) hx hb hg in_X4 hown hK hP (t := (18 + p0)) (ly_N_TB hp0) (ly_TB hp0) rfl 2 (by decide) (hg _ k_43) (fun _ h9 => h9) rfl d_X4_addStep_83 ?_
          exact W.iret (v := ((mm_uI (mm_uI (mm_uI I (20 + p0) ((I (18 + p0) 2)).toNatClampNeg x1) (22 + p0) (((mm_uI I (20 + p0) ((I (18 + p0) 2)).toNatClampNeg x1) (18 + p0) 2)).toNatClampNeg x2) (18 + p0) 2 (((mm_uI (mm_uI I (20 + p0) ((I (18 + p0) 2)).toNatClampNeg x1) (22 + p0) (((mm_uI I (20 + p0) ((I (18 + p0) 2)).toNatClampNeg x1) (18 + p0) 2)).toNatClampNeg x2) (18 + p0) 2) + 1)) (18 + p0) 2)) hx hb hr (fun t ht hW => ⟨⟨((mm_uI (mm_uI (mm_uI I (20 + p0) ((I (18 + p0) 2)).toNatClampNeg x1) (22 + p0) (((mm_uI I (20 + p0) ((I (18 + p0) 2)).toNatClampNeg x1) (18 + p0) 2)).toNatClampNeg x2) (18 + p0) 2 (((mm_uI (mm_uI I (20 + p0) ((I (18 + p0) 2)).toNatClampNeg x1) (22 + p0) (((mm_uI I (20 + p0) ((I (18 + p0) 2)).toNatClampNeg x1) (18 + p0) 2)).toNatClampNeg x2) (18 + p0) 2) + 1)) (18 + p0) 2), ((mm_uI (mm_uI (mm_uI I (20 + p0) ((I (18 + p0) 2)).toNatClampNeg x1) (22 + p0) (((mm_uI I (20 + p0) ((I (18 + p0) 2)).toNatClampNeg x1) (18 + p0) 2)).toNatClampNeg x2) (18 + p0) 2 (((mm_uI (mm_uI I (20 + p0) ((I (18 + p0) 2)).toNatClampNeg x1) (22 + p0) (((mm_uI I (20 + p0) ((I (18 + p0) 2)).toNatClampNeg x1) (18 + p0) 2)).toNatClampNeg x2) (18 + p0) 2) + 1)), L), rfl, hv, mm_mv ht hP⟩, hS.F ht⟩) hS.2.2 d_X4_addStep_86
        · have hv := hv.2 hc
          refine lv_bipush (v := (-2)) hx hb d_X4_addStep_49 (by decide) ?_
          exact W.iret (v := (-2)) hx hb hr (fun t ht hW => ⟨⟨(-2), (I, L), rfl, hv, mm_mv ht hP⟩, hS.F ht⟩) hS.2.2 d_X4_addStep_51
      · have hv := hv.2 hc
        refine lv_iconst (v := (-1)) hx hb d_X4_addStep_39 (by decide) ?_
        exact W.iret (v := (-1)) hx hb hr (fun t ht hW => ⟨⟨(-1), (I, L), rfl, hv, mm_mv ht hP⟩, hS.F ht⟩) hS.2.2 d_X4_addStep_40
set_option maxHeartbeats 4000000 in
set_option maxRecDepth 100000 in
theorem w_X4_addStep_0 {p : Program} {l : Launch} {e : Env} {s : State} {m : MethodId} {args : Array Value} {below : List Frame} {meth : Method} {c : Code} {G : mm_G} (hcx : mm_cx c_X4_addStep (some .int) 4 RX4 G p s m args meth c) (p0 : Nat) (x1 : Int32) (x2 : Int32) (I : mm_I) (L : mm_L) (Q : Int32 → mm_I → mm_L → Prop) (hp0 : p0 < 2) (hv : vc_X4_addStep_0 p0 x1 x2 I L Q) {H : Heap} {locs : List Loc} (hP : mm_PW G I L H) (hD : mm_DW G I L) (hS : va_S G.2.2.2.1 s.heap H locs) {ls : Array Slot} (hl : lv_has ls 4 [(0, .ref (G.2.2.1 (18 + p0))), (1, .int x1), (2, .int x2)]) : W p l e (headSpec w_X4_addStep rm_X4_addStep).room s m args below meth c H locs 0 0 (MQ below (mm_qi G Q) args s 0 0 G.2.2.2.1) (F0 m 0 ls []) := by
  obtain ⟨hx, hb, hr, hlocks, hml, hown, hg, hK, hC⟩ := id hcx
  unfold vc_X4_addStep_0 at hv
  refine lv_aload_n hx hb d_X4_addStep_0 rfl (lv_at hl 0 rfl) ?_
  refine mm_gi (D := G.1) (C := RX4) (T := TX4) (N0 := 3) hx hb hg in_X4 hown hK hP (t := (18 + p0)) (ly_N_TB hp0) (ly_TB hp0) rfl 2 (by decide) (hg _ k_43) (fun _ h9 => h9) rfl d_X4_addStep_1 ?_
  refine lv_if_le (tgt := 21) hx hb d_X4_addStep_4 (by decide) (fun hc => ?_) (fun hc => ?_)
  · have hv := hv.1 hc
    refine lv_iconst (v := 0) hx hb d_X4_addStep_21 (by decide) ?_
    exact w_X4_addStep_22 hcx p0 x1 x2 0 I L Q hp0 hv hP hD hS (lv_sub hl [0, 1, 2] rfl)
  · have hv := hv.2 hc
    refine lv_aload_n hx hb d_X4_addStep_7 rfl (lv_at hl 0 rfl) ?_
    refine mm_gr (D := G.1) (C := RX4) (T := TX4) (N0 := 3) (r := (20 + p0)) hx hb hg in_X4 hown hK hP (t := (18 + p0)) (ly_N_TB hp0) (ly_TB hp0) rfl 0 (by decide) (hg _ k_44) (fun _ h9 => h9) rfl d_X4_addStep_8 ?_
    refine lv_aload_n hx hb d_X4_addStep_11 rfl (lv_at hl 0 rfl) ?_
    refine mm_gi (D := G.1) (C := RX4) (T := TX4) (N0 := 3) hx hb hg in_X4 hown hK hP (t := (18 + p0)) (ly_N_TB hp0) (ly_TB hp0) rfl 2 (by decide) (hg _ k_43) (fun _ h9 => h9) rfl d_X4_addStep_12 ?_
    refine lv_iconst (v := 1) hx hb d_X4_addStep_15 (by decide) ?_
    refine lv_isub hx hb d_X4_addStep_16 ?_
    obtain ⟨h103, hv⟩ := hv
    refine mm_iald (D := G.1) hx hb hK hP (t := (20 + p0)) (ly_N_LIM hp0) (ly_LIM hp0) rfl h103 d_X4_addStep_17 ?_
    refine lv_goto (tgt := 22) hx hb d_X4_addStep_18 (by decide) ?_
    exact w_X4_addStep_22 hcx p0 x1 x2 (I (20 + p0) (((I (18 + p0) 2) - 1)).toNatClampNeg) I L Q hp0 hv hP hD hS (lv_sub hl [0, 1, 2] rfl)
abbrev vc_X4_addStep (p0 : Nat) (x1 : Int32) (x2 : Int32) (I : mm_I) (L : mm_L) (Q : Int32 → mm_I → mm_L → Prop) : Prop := vc_X4_addStep_0 p0 x1 x2 I L Q
set_option maxHeartbeats 4000000 in
set_option maxRecDepth 100000 in
theorem m_X4_addStep (l : Launch) (G : mm_G) (p0 : Nat) (x1 : Int32) (x2 : Int32) (I : mm_I) (L : mm_L) (Q : Int32 → mm_I → mm_L → Prop) (hp0 : p0 < 2) (hv : vc_X4_addStep p0 x1 x2 I L Q) : Met l y_X4_addStep w_X4_addStep rm_X4_addStep (mm_pre G [.ref (G.2.2.1 (18 + p0)), .int x1, .int x2] I L) (mm_qi G Q) 0 0 G.2.2.2.1 := by
  refine Met.ofW (cc := c_X4_addStep) (maxL := 4) (ret := (some .int)) (by decide) rfl ?_
  intro p e s m args below meth c s₁ B hml hw
  obtain ⟨rfl, hP, hK, hD, hC⟩ := hw
  have hts := atoms_spec (ws := w_X4_addStep) B.pre
  have hown : s.vm.findClass RX4 = some m.cls := findClass_of_methodNamed B.named
  have hl := lv_entry ([.ref (G.2.2.1 (18 + p0)), .int x1, .int x2]) (n := 4) (Nat.le_of_ble_eq_true rfl)
  rw [lg_entry_eq]
  generalize (lg_sl ([.ref (G.2.2.1 (18 + p0)), .int x1, .int x2]) ++ List.replicate (4 - (lg_sl ([.ref (G.2.2.1 (18 + p0)), .int x1, .int x2])).length) Slot.unset).toArray = ls at hl ⊢
  have hl : lv_has ls 4 [(0, .ref (G.2.2.1 (18 + p0))), (1, .int x1), (2, .int x2)] := hl
  exact w_X4_addStep_0 ⟨B.exec, B.bytes, B.returns, B.notSynchronized, hml, hown, fun w h => hts w (List.mem_cons_of_mem _ h), hK, hC⟩ p0 x1 x2 I L Q hp0 hv hP hD va_S.rf hl
abbrev rm_X6_step : Room := { frames := 1, cells := 0, slots := 0, locals := 23 }
def vc_X6_step_0 (x1 : Int32) (x2 : Int32) (x3 : Int32) (I : mm_I) (L : mm_L) (Q : Int32 → mm_I → mm_L → Prop) : Prop :=
  vc_X6_within x1 2 I L (fun r108 I106 L107 => (r108 = 0 → Q (-1) I106 L107) ∧ (¬ r108 = 0 → vp_in x1 2 ∧ vc_X4_addStep (x1.toNatClampNeg) x2 x3 I106 L107 (fun r112 I110 L111 => Q r112 I110 L111)))
set_option maxHeartbeats 4000000 in
set_option maxRecDepth 100000 in
theorem w_X6_step_0 {p : Program} {l : Launch} {e : Env} {s : State} {m : MethodId} {args : Array Value} {below : List Frame} {meth : Method} {c : Code} {G : mm_G} (hcx : mm_cx c_X6_step (some .int) 4 RX6 G p s m args meth c) (x1 : Int32) (x2 : Int32) (x3 : Int32) (I : mm_I) (L : mm_L) (Q : Int32 → mm_I → mm_L → Prop)  (hv : vc_X6_step_0 x1 x2 x3 I L Q) {H : Heap} {locs : List Loc} (hP : mm_PW G I L H) (hD : mm_DW G I L) (hS : va_S G.2.2.2.1 s.heap H locs) {ls : Array Slot} (hl : lv_has ls 4 [(0, .ref (G.2.2.1 0)), (1, .int x1), (2, .int x2), (3, .int x3)]) : W p l e (headSpec w_X6_step rm_X6_step).room s m args below meth c H locs 0 0 (MQ below (mm_qi G Q) args s 0 0 G.2.2.2.1) (F0 m 0 ls []) := by
  obtain ⟨hx, hb, hr, hlocks, hml, hown, hg, hK, hC⟩ := id hcx
  unfold vc_X6_step_0 at hv
  refine lv_iload_n hx hb d_X6_step_0 rfl (lv_at hl 1 rfl) ?_
  refine lv_iconst (v := 2) hx hb d_X6_step_1 (by decide) ?_
  refine va_calli (va_runS (As := [.int x1, .int 2]) (rest := []) ⟨hx, hb, hml, hown, hg⟩ (m_X6_within l G x1 2 I L _  hv) (va_cwS 2 hg (mm_gS k_42 k_2 k_1 kc_X6_within) rfl rfl rfl (by decide +kernel) ⟨Nat.le_of_ble_eq_true rfl, Nat.le_of_ble_eq_true rfl⟩) ⟨mm_blind, fun U hU hW => mm_call hP hK hD hC hU hS hW⟩ rfl rfl hl.1 rfl (lv_room (Nat.le_of_ble_eq_true rfl)) d_X6_step_2 ⟨Nat.zero_le _, Nat.zero_le _⟩) hS (fun q _ h => h) (fun q h => h) (fun r108 u t H locs ht hvm hv hP hz1 hk1 hS => ?_)
  obtain ⟨I106, L107⟩ := u
  dsimp only at hv hP
  rw [ht] at hP
  have hD : mm_DW G I106 L107 := mm_D_any hD
  refine lv_if_eq (tgt := 25) hx hb d_X6_step_5 (by decide) (fun hc => ?_) (fun hc => ?_)
  · have hv := hv.1 hc
    refine lv_iconst (v := (-1)) hx hb d_X6_step_25 (by decide) ?_
    exact W.iret (v := (-1)) hx hb hr (fun t ht hW => ⟨⟨(-1), (I106, L107), rfl, hv, mm_mv ht hP⟩, hS.F ht⟩) hS.2.2 d_X6_step_26
  · have hv := hv.2 hc
    refine lv_aload_n hx hb d_X6_step_8 rfl (lv_at hl 0 rfl) ?_
    refine mm_gr (D := G.1) (C := RX6) (T := TX6) (N0 := 3) (r := 1) hx hb hg in_X6 hown hK hP (t := 0) (by decide) rfl rfl 0 (by decide) (hg _ k_34) (fun _ h9 => h9) rfl d_X6_step_9 ?_
    refine mm_gr (D := G.1) (C := RX2) (T := TX2) (N0 := 4) (r := 11) hx hb hg in_X2 hown hK hP (t := 1) (by decide) rfl rfl 2 (by decide) (hg _ k_46) (fun _ h9 => h9) rfl d_X6_step_12 ?_
    refine lv_iload_n hx hb d_X6_step_15 rfl (lv_at hl 1 rfl) ?_
    obtain ⟨h109, hv⟩ := hv
    refine mm_aald (D := G.1) hx hb hK hP (t := 11) (by decide) rfl rfl h109 (r := (18 + x1.toNatClampNeg)) (rfl) d_X6_step_16 ?_
    refine lv_iload_n hx hb d_X6_step_17 rfl (lv_at hl 2 rfl) ?_
    refine lv_iload_n hx hb d_X6_step_18 rfl (lv_at hl 3 rfl) ?_
    refine va_calli (va_runV (As := [.int x2, .int x3]) (rest := []) ⟨hx, hb, hml, hown, hg⟩ (m_X4_addStep l G (x1.toNatClampNeg) x2 x3 I106 L107 _ (mm_lt h109) hv) (cwV 2 hg (mm_gV k_47 k_48 k_49 k_50 kc_X4_addStep) rfl rfl rfl (by decide +kernel) ⟨Nat.le_of_ble_eq_true rfl, Nat.le_of_ble_eq_true rfl⟩) ⟨mm_blind, mm_recv hK hP (t := (18 + x1.toNatClampNeg)) (ly_N_TB (mm_lt h109)) (ly_TB (mm_lt h109)) rfl, fun U hU hW => mm_call hP hK hD hC hU hS hW⟩ rfl rfl hl.1 rfl (lv_room (Nat.le_of_ble_eq_true rfl)) d_X6_step_19 ⟨Nat.zero_le _, Nat.zero_le _⟩) hS (fun q _ h => h) (fun q h => h) (fun r112 u t H locs ht hvm hv hP hz1 hk1 hS => ?_)
    obtain ⟨I110, L111⟩ := u
    dsimp only at hv hP
    rw [ht] at hP
    have hD : mm_DW G I110 L111 := mm_D_any hD
    refine lv_goto (tgt := 26) hx hb d_X6_step_22 (by decide) ?_
    exact W.iret (v := r112) hx hb hr (fun t ht hW => ⟨⟨r112, (I110, L111), rfl, hv, mm_mv ht hP⟩, hS.F ht⟩) hS.2.2 d_X6_step_26
abbrev vc_X6_step (x1 : Int32) (x2 : Int32) (x3 : Int32) (I : mm_I) (L : mm_L) (Q : Int32 → mm_I → mm_L → Prop) : Prop := vc_X6_step_0 x1 x2 x3 I L Q
set_option maxHeartbeats 4000000 in
set_option maxRecDepth 100000 in
theorem m_X6_step (l : Launch) (G : mm_G) (x1 : Int32) (x2 : Int32) (x3 : Int32) (I : mm_I) (L : mm_L) (Q : Int32 → mm_I → mm_L → Prop)  (hv : vc_X6_step x1 x2 x3 I L Q) : Met l y_X6_step w_X6_step rm_X6_step (mm_pre G [.ref (G.2.2.1 0), .int x1, .int x2, .int x3] I L) (mm_qi G Q) 0 0 G.2.2.2.1 := by
  refine Met.ofW (cc := c_X6_step) (maxL := 4) (ret := (some .int)) (by decide) rfl ?_
  intro p e s m args below meth c s₁ B hml hw
  obtain ⟨rfl, hP, hK, hD, hC⟩ := hw
  have hts := atoms_spec (ws := w_X6_step) B.pre
  have hown : s.vm.findClass RX6 = some m.cls := findClass_of_methodNamed B.named
  have hl := lv_entry ([.ref (G.2.2.1 0), .int x1, .int x2, .int x3]) (n := 4) (Nat.le_of_ble_eq_true rfl)
  rw [lg_entry_eq]
  generalize (lg_sl ([.ref (G.2.2.1 0), .int x1, .int x2, .int x3]) ++ List.replicate (4 - (lg_sl ([.ref (G.2.2.1 0), .int x1, .int x2, .int x3])).length) Slot.unset).toArray = ls at hl ⊢
  have hl : lv_has ls 4 [(0, .ref (G.2.2.1 0)), (1, .int x1), (2, .int x2), (3, .int x3)] := hl
  exact w_X6_step_0 ⟨B.exec, B.bytes, B.returns, B.notSynchronized, hml, hown, fun w h => hts w (List.mem_cons_of_mem _ h), hK, hC⟩ x1 x2 x3 I L Q  hv hP hD va_S.rf hl
abbrev rm_X4_loseSteps : Room := { frames := 0, cells := 0, slots := 0, locals := 0 }
def vc_X4_loseSteps_0 (p0 : Nat) (I : mm_I) (L : mm_L) (Q : Int32 → mm_I → mm_L → Prop) : Prop :=
  Q (I (18 + p0) 2) (mm_uI I (18 + p0) 2 0) L
set_option maxHeartbeats 4000000 in
set_option maxRecDepth 100000 in
theorem w_X4_loseSteps_0 {p : Program} {l : Launch} {e : Env} {s : State} {m : MethodId} {args : Array Value} {below : List Frame} {meth : Method} {c : Code} {G : mm_G} (hcx : mm_cx c_X4_loseSteps (some .int) 2 RX4 G p s m args meth c) (p0 : Nat) (I : mm_I) (L : mm_L) (Q : Int32 → mm_I → mm_L → Prop) (hp0 : p0 < 2) (hv : vc_X4_loseSteps_0 p0 I L Q) {H : Heap} {locs : List Loc} (hP : mm_PW G I L H) (hD : mm_DW G I L) (hS : va_S G.2.2.2.1 s.heap H locs) {ls : Array Slot} (hl : lv_has ls 2 [(0, .ref (G.2.2.1 (18 + p0)))]) : W p l e (headSpec w_X4_loseSteps rm_X4_loseSteps).room s m args below meth c H locs 0 0 (MQ below (mm_qi G Q) args s 0 0 G.2.2.2.1) (F0 m 0 ls []) := by
  obtain ⟨hx, hb, hr, hlocks, hml, hown, hg, hK, hC⟩ := id hcx
  unfold vc_X4_loseSteps_0 at hv
  refine lv_aload_n hx hb d_X4_loseSteps_0 rfl (lv_at hl 0 rfl) ?_
  refine mm_gi (D := G.1) (C := RX4) (T := TX4) (N0 := 3) hx hb hg in_X4 hown hK hP (t := (18 + p0)) (ly_N_TB hp0) (ly_TB hp0) rfl 2 (by decide) (hg _ k_43) (fun _ h9 => h9) rfl d_X4_loseSteps_1 ?_
  refine lv_istore_n (lv' := [(1, .int (I (18 + p0) 2)), (0, .ref (G.2.2.1 (18 + p0)))]) hx hb d_X4_loseSteps_4 rfl hl (by decide) rfl (fun ls hl => ?_)
  refine lv_aload_n hx hb d_X4_loseSteps_5 rfl (lv_at hl 1 rfl) ?_
  refine lv_iconst (v := 0) hx hb d_X4_loseSteps_6 (by decide) ?_
  refine mm_pi (D := G.1) (C := RX4) (T := TX4) (N0 := 3) (ty := .int) hx hb hg in_X4 tyX4 tyX4_ok nmX4 hown hK hP hD hS (t := (18 + p0)) (ly_N_TB hp0) (ly_TB hp0) rfl 2 (by decide) (hg _ k_43) (fun _ h9 => h9) rfl (by decide +kernel) rfl rfl rfl d_X4_loseSteps_7 (fun H locs hP hD hS => ?_)
  refine lv_iload_n hx hb d_X4_loseSteps_10 rfl (lv_at hl 0 rfl) ?_
  exact W.iret (v := (I (18 + p0) 2)) hx hb hr (fun t ht hW => ⟨⟨(I (18 + p0) 2), ((mm_uI I (18 + p0) 2 0), L), rfl, hv, mm_mv ht hP⟩, hS.F ht⟩) hS.2.2 d_X4_loseSteps_11
abbrev vc_X4_loseSteps (p0 : Nat) (I : mm_I) (L : mm_L) (Q : Int32 → mm_I → mm_L → Prop) : Prop := vc_X4_loseSteps_0 p0 I L Q
set_option maxHeartbeats 4000000 in
set_option maxRecDepth 100000 in
theorem m_X4_loseSteps (l : Launch) (G : mm_G) (p0 : Nat) (I : mm_I) (L : mm_L) (Q : Int32 → mm_I → mm_L → Prop) (hp0 : p0 < 2) (hv : vc_X4_loseSteps p0 I L Q) : Met l y_X4_loseSteps w_X4_loseSteps rm_X4_loseSteps (mm_pre G [.ref (G.2.2.1 (18 + p0))] I L) (mm_qi G Q) 0 0 G.2.2.2.1 := by
  refine Met.ofW (cc := c_X4_loseSteps) (maxL := 2) (ret := (some .int)) (by decide) rfl ?_
  intro p e s m args below meth c s₁ B hml hw
  obtain ⟨rfl, hP, hK, hD, hC⟩ := hw
  have hts := atoms_spec (ws := w_X4_loseSteps) B.pre
  have hown : s.vm.findClass RX4 = some m.cls := findClass_of_methodNamed B.named
  have hl := lv_entry ([.ref (G.2.2.1 (18 + p0))]) (n := 2) (Nat.le_of_ble_eq_true rfl)
  rw [lg_entry_eq]
  generalize (lg_sl ([.ref (G.2.2.1 (18 + p0))]) ++ List.replicate (2 - (lg_sl ([.ref (G.2.2.1 (18 + p0))])).length) Slot.unset).toArray = ls at hl ⊢
  have hl : lv_has ls 2 [(0, .ref (G.2.2.1 (18 + p0)))] := hl
  exact w_X4_loseSteps_0 ⟨B.exec, B.bytes, B.returns, B.notSynchronized, hml, hown, fun w h => hts w (List.mem_cons_of_mem _ h), hK, hC⟩ p0 I L Q hp0 hv hP hD va_S.rf hl
abbrev rm_X6_clear : Room := { frames := 1, cells := 0, slots := 0, locals := 21 }
def vc_X6_clear_0 (x1 : Int32) (I : mm_I) (L : mm_L) (Q : Int32 → mm_I → mm_L → Prop) : Prop :=
  vc_X6_within x1 2 I L (fun r115 I113 L114 => (r115 = 0 → Q (-1) I113 L114) ∧ (¬ r115 = 0 → vp_in x1 2 ∧ vc_X4_loseSteps (x1.toNatClampNeg) I113 L114 (fun r119 I117 L118 => Q r119 I117 L118)))
set_option maxHeartbeats 4000000 in
set_option maxRecDepth 100000 in
theorem w_X6_clear_0 {p : Program} {l : Launch} {e : Env} {s : State} {m : MethodId} {args : Array Value} {below : List Frame} {meth : Method} {c : Code} {G : mm_G} (hcx : mm_cx c_X6_clear (some .int) 2 RX6 G p s m args meth c) (x1 : Int32) (I : mm_I) (L : mm_L) (Q : Int32 → mm_I → mm_L → Prop)  (hv : vc_X6_clear_0 x1 I L Q) {H : Heap} {locs : List Loc} (hP : mm_PW G I L H) (hD : mm_DW G I L) (hS : va_S G.2.2.2.1 s.heap H locs) {ls : Array Slot} (hl : lv_has ls 2 [(0, .ref (G.2.2.1 0)), (1, .int x1)]) : W p l e (headSpec w_X6_clear rm_X6_clear).room s m args below meth c H locs 0 0 (MQ below (mm_qi G Q) args s 0 0 G.2.2.2.1) (F0 m 0 ls []) := by
  obtain ⟨hx, hb, hr, hlocks, hml, hown, hg, hK, hC⟩ := id hcx
  unfold vc_X6_clear_0 at hv
  refine lv_iload_n hx hb d_X6_clear_0 rfl (lv_at hl 1 rfl) ?_
  refine lv_iconst (v := 2) hx hb d_X6_clear_1 (by decide) ?_
  refine va_calli (va_runS (As := [.int x1, .int 2]) (rest := []) ⟨hx, hb, hml, hown, hg⟩ (m_X6_within l G x1 2 I L _  hv) (va_cwS 2 hg (mm_gS k_42 k_2 k_1 kc_X6_within) rfl rfl rfl (by decide +kernel) ⟨Nat.le_of_ble_eq_true rfl, Nat.le_of_ble_eq_true rfl⟩) ⟨mm_blind, fun U hU hW => mm_call hP hK hD hC hU hS hW⟩ rfl rfl hl.1 rfl (lv_room (Nat.le_of_ble_eq_true rfl)) d_X6_clear_2 ⟨Nat.zero_le _, Nat.zero_le _⟩) hS (fun q _ h => h) (fun q h => h) (fun r115 u t H locs ht hvm hv hP hz1 hk1 hS => ?_)
  obtain ⟨I113, L114⟩ := u
  dsimp only at hv hP
  rw [ht] at hP
  have hD : mm_DW G I113 L114 := mm_D_any hD
  refine lv_if_eq (tgt := 23) hx hb d_X6_clear_5 (by decide) (fun hc => ?_) (fun hc => ?_)
  · have hv := hv.1 hc
    refine lv_iconst (v := (-1)) hx hb d_X6_clear_23 (by decide) ?_
    exact W.iret (v := (-1)) hx hb hr (fun t ht hW => ⟨⟨(-1), (I113, L114), rfl, hv, mm_mv ht hP⟩, hS.F ht⟩) hS.2.2 d_X6_clear_24
  · have hv := hv.2 hc
    refine lv_aload_n hx hb d_X6_clear_8 rfl (lv_at hl 0 rfl) ?_
    refine mm_gr (D := G.1) (C := RX6) (T := TX6) (N0 := 3) (r := 1) hx hb hg in_X6 hown hK hP (t := 0) (by decide) rfl rfl 0 (by decide) (hg _ k_34) (fun _ h9 => h9) rfl d_X6_clear_9 ?_
    refine mm_gr (D := G.1) (C := RX2) (T := TX2) (N0 := 4) (r := 11) hx hb hg in_X2 hown hK hP (t := 1) (by decide) rfl rfl 2 (by decide) (hg _ k_46) (fun _ h9 => h9) rfl d_X6_clear_12 ?_
    refine lv_iload_n hx hb d_X6_clear_15 rfl (lv_at hl 1 rfl) ?_
    obtain ⟨h116, hv⟩ := hv
    refine mm_aald (D := G.1) hx hb hK hP (t := 11) (by decide) rfl rfl h116 (r := (18 + x1.toNatClampNeg)) (rfl) d_X6_clear_16 ?_
    refine va_calli (va_runV (As := []) (rest := []) ⟨hx, hb, hml, hown, hg⟩ (m_X4_loseSteps l G (x1.toNatClampNeg) I113 L114 _ (mm_lt h116) hv) (cwV 0 hg (mm_gV k_51 k_52 k_53 k_50 kc_X4_loseSteps) rfl rfl rfl (by decide +kernel) ⟨Nat.le_of_ble_eq_true rfl, Nat.le_of_ble_eq_true rfl⟩) ⟨mm_blind, mm_recv hK hP (t := (18 + x1.toNatClampNeg)) (ly_N_TB (mm_lt h116)) (ly_TB (mm_lt h116)) rfl, fun U hU hW => mm_call hP hK hD hC hU hS hW⟩ rfl rfl hl.1 rfl (lv_room (Nat.le_of_ble_eq_true rfl)) d_X6_clear_17 ⟨Nat.zero_le _, Nat.zero_le _⟩) hS (fun q _ h => h) (fun q h => h) (fun r119 u t H locs ht hvm hv hP hz1 hk1 hS => ?_)
    obtain ⟨I117, L118⟩ := u
    dsimp only at hv hP
    rw [ht] at hP
    have hD : mm_DW G I117 L118 := mm_D_any hD
    refine lv_goto (tgt := 24) hx hb d_X6_clear_20 (by decide) ?_
    exact W.iret (v := r119) hx hb hr (fun t ht hW => ⟨⟨r119, (I117, L118), rfl, hv, mm_mv ht hP⟩, hS.F ht⟩) hS.2.2 d_X6_clear_24
abbrev vc_X6_clear (x1 : Int32) (I : mm_I) (L : mm_L) (Q : Int32 → mm_I → mm_L → Prop) : Prop := vc_X6_clear_0 x1 I L Q
set_option maxHeartbeats 4000000 in
set_option maxRecDepth 100000 in
theorem m_X6_clear (l : Launch) (G : mm_G) (x1 : Int32) (I : mm_I) (L : mm_L) (Q : Int32 → mm_I → mm_L → Prop)  (hv : vc_X6_clear x1 I L Q) : Met l y_X6_clear w_X6_clear rm_X6_clear (mm_pre G [.ref (G.2.2.1 0), .int x1] I L) (mm_qi G Q) 0 0 G.2.2.2.1 := by
  refine Met.ofW (cc := c_X6_clear) (maxL := 2) (ret := (some .int)) (by decide) rfl ?_
  intro p e s m args below meth c s₁ B hml hw
  obtain ⟨rfl, hP, hK, hD, hC⟩ := hw
  have hts := atoms_spec (ws := w_X6_clear) B.pre
  have hown : s.vm.findClass RX6 = some m.cls := findClass_of_methodNamed B.named
  have hl := lv_entry ([.ref (G.2.2.1 0), .int x1]) (n := 2) (Nat.le_of_ble_eq_true rfl)
  rw [lg_entry_eq]
  generalize (lg_sl ([.ref (G.2.2.1 0), .int x1]) ++ List.replicate (2 - (lg_sl ([.ref (G.2.2.1 0), .int x1])).length) Slot.unset).toArray = ls at hl ⊢
  have hl : lv_has ls 2 [(0, .ref (G.2.2.1 0)), (1, .int x1)] := hl
  exact w_X6_clear_0 ⟨B.exec, B.bytes, B.returns, B.notSynchronized, hml, hown, fun w h => hts w (List.mem_cons_of_mem _ h), hK, hC⟩ x1 I L Q  hv hP hD va_S.rf hl
abbrev rm_X6_input : Room := { frames := 1, cells := 0, slots := 0, locals := 21 }
def vc_X6_input_0 (x1 : Int32) (x2 : Int32) (x3 : Int32) (I : mm_I) (L : mm_L) (Q : Int32 → mm_I → mm_L → Prop) : Prop :=
  vc_X6_within x1 6 I L (fun r122 I120 L121 => (r122 = 0 → Q (-1) I120 L121) ∧ (¬ r122 = 0 → vc_X6_within x2 8 I120 L121 (fun r125 I123 L124 => (¬ r125 = 0 → vp_in x1 6 ∧ vp_in x2 8 ∧ Q 0 (mm_uI I123 (30 + x1.toNatClampNeg) x2.toNatClampNeg x3) L124) ∧ (r125 = 0 → Q (-1) I123 L124))))
set_option maxHeartbeats 4000000 in
set_option maxRecDepth 100000 in
theorem w_X6_input_0 {p : Program} {l : Launch} {e : Env} {s : State} {m : MethodId} {args : Array Value} {below : List Frame} {meth : Method} {c : Code} {G : mm_G} (hcx : mm_cx c_X6_input (some .int) 4 RX6 G p s m args meth c) (x1 : Int32) (x2 : Int32) (x3 : Int32) (I : mm_I) (L : mm_L) (Q : Int32 → mm_I → mm_L → Prop)  (hv : vc_X6_input_0 x1 x2 x3 I L Q) {H : Heap} {locs : List Loc} (hP : mm_PW G I L H) (hD : mm_DW G I L) (hS : va_S G.2.2.2.1 s.heap H locs) {ls : Array Slot} (hl : lv_has ls 4 [(0, .ref (G.2.2.1 0)), (1, .int x1), (2, .int x2), (3, .int x3)]) : W p l e (headSpec w_X6_input rm_X6_input).room s m args below meth c H locs 0 0 (MQ below (mm_qi G Q) args s 0 0 G.2.2.2.1) (F0 m 0 ls []) := by
  obtain ⟨hx, hb, hr, hlocks, hml, hown, hg, hK, hC⟩ := id hcx
  unfold vc_X6_input_0 at hv
  refine lv_iload_n hx hb d_X6_input_0 rfl (lv_at hl 1 rfl) ?_
  refine lv_bipush (v := 6) hx hb d_X6_input_1 (by decide) ?_
  refine va_calli (va_runS (As := [.int x1, .int 6]) (rest := []) ⟨hx, hb, hml, hown, hg⟩ (m_X6_within l G x1 6 I L _  hv) (va_cwS 2 hg (mm_gS k_42 k_2 k_1 kc_X6_within) rfl rfl rfl (by decide +kernel) ⟨Nat.le_of_ble_eq_true rfl, Nat.le_of_ble_eq_true rfl⟩) ⟨mm_blind, fun U hU hW => mm_call hP hK hD hC hU hS hW⟩ rfl rfl hl.1 rfl (lv_room (Nat.le_of_ble_eq_true rfl)) d_X6_input_3 ⟨Nat.zero_le _, Nat.zero_le _⟩) hS (fun q _ h => h) (fun q h => h) (fun r122 u t H locs ht hvm hv hP hz1 hk1 hS => ?_)
  obtain ⟨I120, L121⟩ := u
  dsimp only at hv hP
  rw [ht] at hP
  have hD : mm_DW G I120 L121 := mm_D_any hD
  refine lv_if_eq (tgt := 18) hx hb d_X6_input_6 (by decide) (fun hc => ?_) (fun hc => ?_)
  · have hv := hv.1 hc
    refine lv_iconst (v := (-1)) hx hb d_X6_input_18 (by decide) ?_
    exact W.iret (v := (-1)) hx hb hr (fun t ht hW => ⟨⟨(-1), (I120, L121), rfl, hv, mm_mv ht hP⟩, hS.F ht⟩) hS.2.2 d_X6_input_19
  · have hv := hv.2 hc
    refine lv_iload_n hx hb d_X6_input_9 rfl (lv_at hl 2 rfl) ?_
    refine lv_bipush (v := 8) hx hb d_X6_input_10 (by decide) ?_
    refine va_calli (va_runS (As := [.int x2, .int 8]) (rest := []) ⟨hx, hb, hml, hown, hg⟩ (m_X6_within l G x2 8 I120 L121 _  hv) (va_cwS 2 hg (mm_gS k_42 k_2 k_1 kc_X6_within) rfl rfl rfl (by decide +kernel) ⟨Nat.le_of_ble_eq_true rfl, Nat.le_of_ble_eq_true rfl⟩) ⟨mm_blind, fun U hU hW => mm_call hP hK hD hC hU hS hW⟩ rfl rfl hl.1 rfl (lv_room (Nat.le_of_ble_eq_true rfl)) d_X6_input_12 ⟨Nat.zero_le _, Nat.zero_le _⟩) hS (fun q _ h => h) (fun q h => h) (fun r125 u t H locs ht hvm hv hP hz1 hk1 hS => ?_)
    obtain ⟨I123, L124⟩ := u
    dsimp only at hv hP
    rw [ht] at hP
    have hD : mm_DW G I123 L124 := mm_D_any hD
    refine lv_if_ne (tgt := 20) hx hb d_X6_input_15 (by decide) (fun hc => ?_) (fun hc => ?_)
    · have hv := hv.1 hc
      refine lv_aload_n hx hb d_X6_input_20 rfl (lv_at hl 0 rfl) ?_
      refine mm_gr (D := G.1) (C := RX6) (T := TX6) (N0 := 3) (r := 13) hx hb hg in_X6 hown hK hP (t := 0) (by decide) rfl rfl 1 (by decide) (hg _ k_54) (fun _ h9 => h9) rfl d_X6_input_21 ?_
      refine lv_iload_n hx hb d_X6_input_24 rfl (lv_at hl 1 rfl) ?_
      obtain ⟨h126, hv⟩ := hv
      refine mm_aald (D := G.1) hx hb hK hP (t := 13) (by decide) rfl rfl h126 (r := (24 + x1.toNatClampNeg)) (rfl) d_X6_input_25 ?_
      refine mm_gr (D := G.1) (C := RX1) (T := TX1) (N0 := 4) (r := (30 + x1.toNatClampNeg)) hx hb hg in_X1 hown hK hP (t := (24 + x1.toNatClampNeg)) (ly_N_PS (mm_lt h126)) (ly_PS (mm_lt h126)) rfl 0 (by decide) (hg _ k_55) (fun _ h9 => h9) rfl d_X6_input_26 ?_
      refine lv_iload_n hx hb d_X6_input_29 rfl (lv_at hl 2 rfl) ?_
      refine lv_iload_n hx hb d_X6_input_30 rfl (lv_at hl 3 rfl) ?_
      obtain ⟨h127, hv⟩ := hv
      refine mm_iast (D := G.1) hx hb hK hP hD hS (t := (30 + x1.toNatClampNeg)) (ly_N_INP (mm_lt h126)) (ly_INP (mm_lt h126)) rfl h127 d_X6_input_31 (fun H locs hP hD hS => ?_)
      refine lv_iconst (v := 0) hx hb d_X6_input_32 (by decide) ?_
      exact W.iret (v := 0) hx hb hr (fun t ht hW => ⟨⟨0, ((mm_uI I123 (30 + x1.toNatClampNeg) x2.toNatClampNeg x3), L124), rfl, hv, mm_mv ht hP⟩, hS.F ht⟩) hS.2.2 d_X6_input_33
    · have hv := hv.2 hc
      refine lv_iconst (v := (-1)) hx hb d_X6_input_18 (by decide) ?_
      exact W.iret (v := (-1)) hx hb hr (fun t ht hW => ⟨⟨(-1), (I123, L124), rfl, hv, mm_mv ht hP⟩, hS.F ht⟩) hS.2.2 d_X6_input_19
abbrev vc_X6_input (x1 : Int32) (x2 : Int32) (x3 : Int32) (I : mm_I) (L : mm_L) (Q : Int32 → mm_I → mm_L → Prop) : Prop := vc_X6_input_0 x1 x2 x3 I L Q
set_option maxHeartbeats 4000000 in
set_option maxRecDepth 100000 in
theorem m_X6_input (l : Launch) (G : mm_G) (x1 : Int32) (x2 : Int32) (x3 : Int32) (I : mm_I) (L : mm_L) (Q : Int32 → mm_I → mm_L → Prop)  (hv : vc_X6_input x1 x2 x3 I L Q) : Met l y_X6_input w_X6_input rm_X6_input (mm_pre G [.ref (G.2.2.1 0), .int x1, .int x2, .int x3] I L) (mm_qi G Q) 0 0 G.2.2.2.1 := by
  refine Met.ofW (cc := c_X6_input) (maxL := 4) (ret := (some .int)) (by decide) rfl ?_
  intro p e s m args below meth c s₁ B hml hw
  obtain ⟨rfl, hP, hK, hD, hC⟩ := hw
  have hts := atoms_spec (ws := w_X6_input) B.pre
  have hown : s.vm.findClass RX6 = some m.cls := findClass_of_methodNamed B.named
  have hl := lv_entry ([.ref (G.2.2.1 0), .int x1, .int x2, .int x3]) (n := 4) (Nat.le_of_ble_eq_true rfl)
  rw [lg_entry_eq]
  generalize (lg_sl ([.ref (G.2.2.1 0), .int x1, .int x2, .int x3]) ++ List.replicate (4 - (lg_sl ([.ref (G.2.2.1 0), .int x1, .int x2, .int x3])).length) Slot.unset).toArray = ls at hl ⊢
  have hl : lv_has ls 4 [(0, .ref (G.2.2.1 0)), (1, .int x1), (2, .int x2), (3, .int x3)] := hl
  exact w_X6_input_0 ⟨B.exec, B.bytes, B.returns, B.notSynchronized, hml, hown, fun w h => hts w (List.mem_cons_of_mem _ h), hK, hC⟩ x1 x2 x3 I L Q  hv hP hD va_S.rf hl
end
