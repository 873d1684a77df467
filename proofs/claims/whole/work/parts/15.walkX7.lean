abbrev rm_X7_whole : Room := { frames := 0, cells := 0, slots := 0, locals := 0 }
def vc_X7_whole_0 (x1 : Int64) (I : mm_I) (L : mm_L) (Q : Int32 → mm_I → mm_L → Prop) : Prop :=
  (x1 < (-2147483648) → Q 0 I L) ∧ (¬ x1 < (-2147483648) → (2147483647 < x1 → Q 0 I L) ∧ (¬ 2147483647 < x1 → Q 1 I L))
set_option maxHeartbeats 4000000 in
set_option maxRecDepth 100000 in
theorem w_X7_whole_0 {p : Program} {l : Launch} {e : Env} {s : State} {m : MethodId} {args : Array Value} {below : List Frame} {meth : Method} {c : Code} {G : mm_G} (hcx : mm_cx c_X7_whole (some .boolean) 3 RX7 G p s m args meth c) (x1 : Int64) (I : mm_I) (L : mm_L) (Q : Int32 → mm_I → mm_L → Prop)  (hv : vc_X7_whole_0 x1 I L Q) {H : Heap} {locs : List Loc} (hP : mm_PW G I L H) (hD : mm_DW G I L) (hS : va_S G.2.2.2.1 s.heap H locs) {ls : Array Slot} (hl : lv_has ls 3 [(0, .ref (G.2.2.1 36)), (1, .long x1)]) : W p l e (headSpec w_X7_whole rm_X7_whole).room s m args below meth c H locs 0 0 (MQ below (mm_qi G Q) args s 0 0 G.2.2.2.1) (F0 m 0 ls []) := by
  obtain ⟨hx, hb, hr, hlocks, hml, hown, hg, hK, hC⟩ := id hcx
  unfold vc_X7_whole_0 at hv
  refine lv_lload_n hx hb d_X7_whole_0 rfl (lv_at hl 1 rfl) ?_
  refine lv_ldc2 (v := (-2147483648)) hx hb hown (hg _ k_248) d_X7_whole_1 ?_
  refine W.lcmp hx hb d_X7_whole_4 ?_
  refine lv_if_lt (tgt := 20) hx hb d_X7_whole_5 (by decide) (fun hc => ?_) (fun hc => ?_)
  · have hv := hv.1 ((lg_cmp_lt _ _).mp hc)
    refine lv_iconst (v := 0) hx hb d_X7_whole_20 (by decide) ?_
    exact W.zret (v := 0) (ty := .boolean) hx hb hr (by decide) (fun t ht hW => ⟨⟨0, (I, L), rfl, hv, mm_mv ht hP⟩, hS.F ht⟩) hS.2.2 d_X7_whole_21
  · have hv := hv.2 (fun q => hc ((lg_cmp_lt _ _).mpr q))
    refine lv_lload_n hx hb d_X7_whole_8 rfl (lv_at hl 1 rfl) ?_
    refine lv_ldc2 (v := 2147483647) hx hb hown (hg _ k_249) d_X7_whole_9 ?_
    refine W.lcmp hx hb d_X7_whole_12 ?_
    refine lv_if_gt (tgt := 20) hx hb d_X7_whole_13 (by decide) (fun hc => ?_) (fun hc => ?_)
    · have hv := hv.1 ((lg_cmp_gt _ _).mp hc)
      refine lv_iconst (v := 0) hx hb d_X7_whole_20 (by decide) ?_
      exact W.zret (v := 0) (ty := .boolean) hx hb hr (by decide) (fun t ht hW => ⟨⟨0, (I, L), rfl, hv, mm_mv ht hP⟩, hS.F ht⟩) hS.2.2 d_X7_whole_21
    · have hv := hv.2 (fun q => hc ((lg_cmp_gt _ _).mpr q))
      refine lv_iconst (v := 1) hx hb d_X7_whole_16 (by decide) ?_
      refine lv_goto (tgt := 21) hx hb d_X7_whole_17 (by decide) ?_
      exact W.zret (v := 1) (ty := .boolean) hx hb hr (by decide) (fun t ht hW => ⟨⟨1, (I, L), rfl, hv, mm_mv ht hP⟩, hS.F ht⟩) hS.2.2 d_X7_whole_21
abbrev vc_X7_whole (x1 : Int64) (I : mm_I) (L : mm_L) (Q : Int32 → mm_I → mm_L → Prop) : Prop := vc_X7_whole_0 x1 I L Q
set_option maxHeartbeats 4000000 in
set_option maxRecDepth 100000 in
theorem m_X7_whole (l : Launch) (G : mm_G) (x1 : Int64) (I : mm_I) (L : mm_L) (Q : Int32 → mm_I → mm_L → Prop)  (hv : vc_X7_whole x1 I L Q) : Met l y_X7_whole w_X7_whole rm_X7_whole (mm_pre G [.ref (G.2.2.1 36), .long x1] I L) (mm_qi G Q) 0 0 G.2.2.2.1 := by
  refine Met.ofW (cc := c_X7_whole) (maxL := 3) (ret := (some .boolean)) (by decide) rfl ?_
  intro p e s m args below meth c s₁ B hml hw
  obtain ⟨rfl, hP, hK, hD, hC⟩ := hw
  have hts := atoms_spec (ws := w_X7_whole) B.pre
  have hown : s.vm.findClass RX7 = some m.cls := findClass_of_methodNamed B.named
  have hl := lv_entry ([.ref (G.2.2.1 36), .long x1]) (n := 3) (Nat.le_of_ble_eq_true rfl)
  rw [lg_entry_eq]
  generalize (lg_sl ([.ref (G.2.2.1 36), .long x1]) ++ List.replicate (3 - (lg_sl ([.ref (G.2.2.1 36), .long x1])).length) Slot.unset).toArray = ls at hl ⊢
  have hl : lv_has ls 3 [(0, .ref (G.2.2.1 36)), (1, .long x1)] := hl
  exact w_X7_whole_0 ⟨B.exec, B.bytes, B.returns, B.notSynchronized, hml, hown, fun w h => hts w (List.mem_cons_of_mem _ h), hK, hC⟩ x1 I L Q  hv hP hD va_S.rf hl
abbrev rm_X7_ranged : Room := { frames := 1, cells := 0, slots := 0, locals := 22 }
def vc_X7_ranged_0 (x1 : Int64) (I : mm_I) (L : mm_L) (Q : Int64 → mm_I → mm_L → Prop) : Prop :=
  vc_X7_whole x1 I L (fun r635 I633 L634 => (r635 = 0 → Q 1000000000104 I633 L634) ∧ (¬ r635 = 0 → Q x1 I633 L634))
set_option maxHeartbeats 4000000 in
set_option maxRecDepth 100000 in
theorem w_X7_ranged_0 {p : Program} {l : Launch} {e : Env} {s : State} {m : MethodId} {args : Array Value} {below : List Frame} {meth : Method} {c : Code} {G : mm_G} (hcx : mm_cx c_X7_ranged (some .long) 3 RX7 G p s m args meth c) (x1 : Int64) (I : mm_I) (L : mm_L) (Q : Int64 → mm_I → mm_L → Prop)  (hv : vc_X7_ranged_0 x1 I L Q) {H : Heap} {locs : List Loc} (hP : mm_PW G I L H) (hD : mm_DW G I L) (hS : va_S G.2.2.2.1 s.heap H locs) {ls : Array Slot} (hl : lv_has ls 3 [(0, .ref (G.2.2.1 36)), (1, .long x1)]) : W p l e (headSpec w_X7_ranged rm_X7_ranged).room s m args below meth c H locs 0 0 (MQ below (mm_ql G Q) args s 0 0 G.2.2.2.1) (F0 m 0 ls []) := by
  obtain ⟨hx, hb, hr, hlocks, hml, hown, hg, hK, hC⟩ := id hcx
  unfold vc_X7_ranged_0 at hv
  refine lv_aload_n hx hb d_X7_ranged_0 rfl (lv_at hl 0 rfl) ?_
  refine lv_lload_n hx hb d_X7_ranged_1 rfl (lv_at hl 1 rfl) ?_
  refine va_calli (va_runV (As := [.long x1]) (rest := []) ⟨hx, hb, hml, hown, hg⟩ (m_X7_whole l G x1 I L _  hv) (cwV 1 hg (mm_gV k_251 k_252 k_253 k_223 kc_X7_whole) rfl rfl rfl (by decide +kernel) ⟨Nat.le_of_ble_eq_true rfl, Nat.le_of_ble_eq_true rfl⟩) ⟨mm_blind, mm_recv hK hP (t := 36) (by decide) rfl rfl, fun U hU hW => mm_call hP hK hD hC hU hS hW⟩ rfl rfl hl.1 rfl (lv_room (Nat.le_of_ble_eq_true rfl)) d_X7_ranged_2 ⟨Nat.zero_le _, Nat.zero_le _⟩) hS (fun q _ h => h) (fun q h => h) (fun r635 u t H locs ht hvm hv hP hz1 hk1 hS => ?_)
  obtain ⟨I633, L634⟩ := u
  dsimp only at hv hP
  rw [ht] at hP
  have hD : mm_DW G I633 L634 := mm_D_any hD
  refine lv_if_eq (tgt := 12) hx hb d_X7_ranged_5 (by decide) (fun hc => ?_) (fun hc => ?_)
  · have hv := hv.1 hc
    refine lv_ldc2 (v := 1000000000104) hx hb hown (hg _ k_250) d_X7_ranged_12 ?_
    exact W.lret (v := 1000000000104) hx hb hr (fun t ht hW => ⟨⟨1000000000104, (I633, L634), rfl, hv, mm_mv ht hP⟩, hS.F ht⟩) hS.2.2 d_X7_ranged_15
  · have hv := hv.2 hc
    refine lv_lload_n hx hb d_X7_ranged_8 rfl (lv_at hl 1 rfl) ?_
    refine lv_goto (tgt := 15) hx hb d_X7_ranged_9 (by decide) ?_
    exact W.lret (v := x1) hx hb hr (fun t ht hW => ⟨⟨x1, (I633, L634), rfl, hv, mm_mv ht hP⟩, hS.F ht⟩) hS.2.2 d_X7_ranged_15
abbrev vc_X7_ranged (x1 : Int64) (I : mm_I) (L : mm_L) (Q : Int64 → mm_I → mm_L → Prop) : Prop := vc_X7_ranged_0 x1 I L Q
set_option maxHeartbeats 4000000 in
set_option maxRecDepth 100000 in
theorem m_X7_ranged (l : Launch) (G : mm_G) (x1 : Int64) (I : mm_I) (L : mm_L) (Q : Int64 → mm_I → mm_L → Prop)  (hv : vc_X7_ranged x1 I L Q) : Met l y_X7_ranged w_X7_ranged rm_X7_ranged (mm_pre G [.ref (G.2.2.1 36), .long x1] I L) (mm_ql G Q) 0 0 G.2.2.2.1 := by
  refine Met.ofW (cc := c_X7_ranged) (maxL := 3) (ret := (some .long)) (by decide) rfl ?_
  intro p e s m args below meth c s₁ B hml hw
  obtain ⟨rfl, hP, hK, hD, hC⟩ := hw
  have hts := atoms_spec (ws := w_X7_ranged) B.pre
  have hown : s.vm.findClass RX7 = some m.cls := findClass_of_methodNamed B.named
  have hl := lv_entry ([.ref (G.2.2.1 36), .long x1]) (n := 3) (Nat.le_of_ble_eq_true rfl)
  rw [lg_entry_eq]
  generalize (lg_sl ([.ref (G.2.2.1 36), .long x1]) ++ List.replicate (3 - (lg_sl ([.ref (G.2.2.1 36), .long x1])).length) Slot.unset).toArray = ls at hl ⊢
  have hl : lv_has ls 3 [(0, .ref (G.2.2.1 36)), (1, .long x1)] := hl
  exact w_X7_ranged_0 ⟨B.exec, B.bytes, B.returns, B.notSynchronized, hml, hown, fun w h => hts w (List.mem_cons_of_mem _ h), hK, hC⟩ x1 I L Q  hv hP hD va_S.rf hl
abbrev rm_X7_rounded : Room := { frames := 0, cells := 0, slots := 0, locals := 0 }
def vc_X7_rounded_81 (x9 : Int64) (xs0 : Int32) (xs1 : Int32) (I : mm_I) (L : mm_L) (Q : Int64 → mm_I → mm_L → Prop) : Prop :=
  (xs1 = xs0 → Q x9 I L) ∧ (¬ xs1 = xs0 → Q (-x9) I L)
def vc_X7_rounded_70 (x3 : Int64) (x9 : Int64) (xs0 : Int32) (I : mm_I) (L : mm_L) (Q : Int64 → mm_I → mm_L → Prop) : Prop :=
  (0 ≤ x3 → vc_X7_rounded_81 x9 0 xs0 I L Q) ∧ (¬ 0 ≤ x3 → vc_X7_rounded_81 x9 1 xs0 I L Q)
def vc_X7_rounded_59 (x1 : Int64) (x3 : Int64) (x9 : Int64) (I : mm_I) (L : mm_L) (Q : Int64 → mm_I → mm_L → Prop) : Prop :=
  (0 ≤ x1 → vc_X7_rounded_70 x3 x9 0 I L Q) ∧ (¬ 0 ≤ x1 → vc_X7_rounded_70 x3 x9 1 I L Q)
def vc_X7_rounded_26 (x1 : Int64) (x3 : Int64) (x5 : Int64) (xs0 : Int64) (I : mm_I) (L : mm_L) (Q : Int64 → mm_I → mm_L → Prop) : Prop :=
  (¬ xs0 = 0) ∧ (¬ xs0 = 0) ∧ ((x5 - x5 / xs0 * xs0) < (xs0 - (x5 - x5 / xs0 * xs0)) → vc_X7_rounded_59 x1 x3 (x5 / xs0) I L Q) ∧ (¬ (x5 - x5 / xs0 * xs0) < (xs0 - (x5 - x5 / xs0 * xs0)) → vc_X7_rounded_59 x1 x3 ((x5 / xs0) + 1) I L Q)
def vc_X7_rounded_12 (x1 : Int64) (x3 : Int64) (xs0 : Int64) (I : mm_I) (L : mm_L) (Q : Int64 → mm_I → mm_L → Prop) : Prop :=
  (0 ≤ x3 → vc_X7_rounded_26 x1 x3 xs0 x3 I L Q) ∧ (¬ 0 ≤ x3 → vc_X7_rounded_26 x1 x3 xs0 (-x3) I L Q)
def vc_X7_rounded_0 (x1 : Int64) (x3 : Int64) (I : mm_I) (L : mm_L) (Q : Int64 → mm_I → mm_L → Prop) : Prop :=
  (0 ≤ x1 → vc_X7_rounded_12 x1 x3 x1 I L Q) ∧ (¬ 0 ≤ x1 → vc_X7_rounded_12 x1 x3 (-x1) I L Q)
set_option maxHeartbeats 4000000 in
set_option maxRecDepth 100000 in
theorem w_X7_rounded_81 {p : Program} {l : Launch} {e : Env} {s : State} {m : MethodId} {args : Array Value} {below : List Frame} {meth : Method} {c : Code} {G : mm_G} (hcx : mm_cx c_X7_rounded (some .long) 13 RX7 G p s m args meth c) (x9 : Int64) (xs0 : Int32) (xs1 : Int32) (I : mm_I) (L : mm_L) (Q : Int64 → mm_I → mm_L → Prop)  (hv : vc_X7_rounded_81 x9 xs0 xs1 I L Q) {H : Heap} {locs : List Loc} (hP : mm_PW G I L H) (hD : mm_DW G I L) (hS : va_S G.2.2.2.1 s.heap H locs) {ls : Array Slot} (hl : lv_has ls 13 [(9, .long x9)]) : W p l e (headSpec w_X7_rounded rm_X7_rounded).room s m args below meth c H locs 0 0 (MQ below (mm_ql G Q) args s 0 0 G.2.2.2.1) (F0 m 81 ls [.int xs0, .int xs1]) := by
  obtain ⟨hx, hb, hr, hlocks, hml, hown, hg, hK, hC⟩ := id hcx
  unfold vc_X7_rounded_81 at hv
  refine lv_icmp_eq (tgt := 90) hx hb d_X7_rounded_81 (by decide) (fun hc => ?_) (fun hc => ?_)
  · have hv := hv.1 hc
    refine lv_lload hx hb d_X7_rounded_90 (lv_at hl 0 rfl) ?_
    exact W.lret (v := x9) hx hb hr (fun t ht hW => ⟨⟨x9, (I, L), rfl, hv, mm_mv ht hP⟩, hS.F ht⟩) hS.2.2 d_X7_rounded_92
  · have hv := hv.2 hc
    refine lv_lload hx hb d_X7_rounded_84 (lv_at hl 0 rfl) ?_
    refine lv_lneg hx hb d_X7_rounded_86 ?_
    refine lv_goto (tgt := 92) hx hb d_X7_rounded_87 (by decide) ?_
    exact W.lret (v := (-x9)) hx hb hr (fun t ht hW => ⟨⟨(-x9), (I, L), rfl, hv, mm_mv ht hP⟩, hS.F ht⟩) hS.2.2 d_X7_rounded_92
set_option maxHeartbeats 4000000 in
set_option maxRecDepth 100000 in
theorem w_X7_rounded_70 {p : Program} {l : Launch} {e : Env} {s : State} {m : MethodId} {args : Array Value} {below : List Frame} {meth : Method} {c : Code} {G : mm_G} (hcx : mm_cx c_X7_rounded (some .long) 13 RX7 G p s m args meth c) (x3 : Int64) (x9 : Int64) (xs0 : Int32) (I : mm_I) (L : mm_L) (Q : Int64 → mm_I → mm_L → Prop)  (hv : vc_X7_rounded_70 x3 x9 xs0 I L Q) {H : Heap} {locs : List Loc} (hP : mm_PW G I L H) (hD : mm_DW G I L) (hS : va_S G.2.2.2.1 s.heap H locs) {ls : Array Slot} (hl : lv_has ls 13 [(3, .long x3), (9, .long x9)]) : W p l e (headSpec w_X7_rounded rm_X7_rounded).room s m args below meth c H locs 0 0 (MQ below (mm_ql G Q) args s 0 0 G.2.2.2.1) (F0 m 70 ls [.int xs0]) := by
  obtain ⟨hx, hb, hr, hlocks, hml, hown, hg, hK, hC⟩ := id hcx
  unfold vc_X7_rounded_70 at hv
  refine lv_lload_n hx hb d_X7_rounded_70 rfl (lv_at hl 0 rfl) ?_
  refine lv_lconst (v := 0) hx hb d_X7_rounded_71 (by decide) ?_
  refine W.lcmp hx hb d_X7_rounded_72 ?_
  refine lv_if_ge (tgt := 80) hx hb d_X7_rounded_73 (by decide) (fun hc => ?_) (fun hc => ?_)
  · have hv := hv.1 ((lg_cmp_ge _ _).mp hc)
    refine lv_iconst (v := 0) hx hb d_X7_rounded_80 (by decide) ?_
    exact w_X7_rounded_81 hcx x9 0 xs0 I L Q  hv hP hD hS (lv_sub hl [1] rfl)
  · have hv := hv.2 (fun q => hc ((lg_cmp_ge _ _).mpr q))
    refine lv_iconst (v := 1) hx hb d_X7_rounded_76 (by decide) ?_
    refine lv_goto (tgt := 81) hx hb d_X7_rounded_77 (by decide) ?_
    exact w_X7_rounded_81 hcx x9 1 xs0 I L Q  hv hP hD hS (lv_sub hl [1] rfl)
set_option maxHeartbeats 4000000 in
set_option maxRecDepth 100000 in
theorem w_X7_rounded_59 {p : Program} {l : Launch} {e : Env} {s : State} {m : MethodId} {args : Array Value} {below : List Frame} {meth : Method} {c : Code} {G : mm_G} (hcx : mm_cx c_X7_rounded (some .long) 13 RX7 G p s m args meth c) (x1 : Int64) (x3 : Int64) (x9 : Int64) (I : mm_I) (L : mm_L) (Q : Int64 → mm_I → mm_L → Prop)  (hv : vc_X7_rounded_59 x1 x3 x9 I L Q) {H : Heap} {locs : List Loc} (hP : mm_PW G I L H) (hD : mm_DW G I L) (hS : va_S G.2.2.2.1 s.heap H locs) {ls : Array Slot} (hl : lv_has ls 13 [(1, .long x1), (3, .long x3), (9, .long x9)]) : W p l e (headSpec w_X7_rounded rm_X7_rounded).room s m args below meth c H locs 0 0 (MQ below (mm_ql G Q) args s 0 0 G.2.2.2.1) (F0 m 59 ls []) := by
  obtain ⟨hx, hb, hr, hlocks, hml, hown, hg, hK, hC⟩ := id hcx
  unfold vc_X7_rounded_59 at hv
  refine lv_lload_n hx hb d_X7_rounded_59 rfl (lv_at hl 0 rfl) ?_
  refine lv_lconst (v := 0) hx hb d_X7_rounded_60 (by decide) ?_
  refine W.lcmp hx hb d_X7_rounded_61 ?_
  refine lv_if_ge (tgt := 69) hx hb d_X7_rounded_62 (by decide) (fun hc => ?_) (fun hc => ?_)
  · have hv := hv.1 ((lg_cmp_ge _ _).mp hc)
    refine lv_iconst (v := 0) hx hb d_X7_rounded_69 (by decide) ?_
    exact w_X7_rounded_70 hcx x3 x9 0 I L Q  hv hP hD hS (lv_sub hl [1, 2] rfl)
  · have hv := hv.2 (fun q => hc ((lg_cmp_ge _ _).mpr q))
    refine lv_iconst (v := 1) hx hb d_X7_rounded_65 (by decide) ?_
    refine lv_goto (tgt := 70) hx hb d_X7_rounded_66 (by decide) ?_
    exact w_X7_rounded_70 hcx x3 x9 1 I L Q  hv hP hD hS (lv_sub hl [1, 2] rfl)
set_option maxHeartbeats 4000000 in
set_option maxRecDepth 100000 in
theorem w_X7_rounded_26 {p : Program} {l : Launch} {e : Env} {s : State} {m : MethodId} {args : Array Value} {below : List Frame} {meth : Method} {c : Code} {G : mm_G} (hcx : mm_cx c_X7_rounded (some .long) 13 RX7 G p s m args meth c) (x1 : Int64) (x3 : Int64) (x5 : Int64) (xs0 : Int64) (I : mm_I) (L : mm_L) (Q : Int64 → mm_I → mm_L → Prop)  (hv : vc_X7_rounded_26 x1 x3 x5 xs0 I L Q) {H : Heap} {locs : List Loc} (hP : mm_PW G I L H) (hD : mm_DW G I L) (hS : va_S G.2.2.2.1 s.heap H locs) {ls : Array Slot} (hl : lv_has ls 13 [(1, .long x1), (3, .long x3), (5, .long x5)]) : W p l e (headSpec w_X7_rounded rm_X7_rounded).room s m args below meth c H locs 0 0 (MQ below (mm_ql G Q) args s 0 0 G.2.2.2.1) (F0 m 26 ls [.long xs0]) := by
  obtain ⟨hx, hb, hr, hlocks, hml, hown, hg, hK, hC⟩ := id hcx
  unfold vc_X7_rounded_26 at hv
  refine lv_lstore (lv' := [(7, .long xs0), (1, .long x1), (3, .long x3), (5, .long x5)]) hx hb d_X7_rounded_26 hl (by decide) rfl (fun ls hl => ?_)
  refine lv_lload hx hb d_X7_rounded_28 (lv_at hl 3 rfl) ?_
  refine lv_lload hx hb d_X7_rounded_30 (lv_at hl 0 rfl) ?_
  obtain ⟨h636, hv⟩ := hv
  refine lv_ldiv hx hb d_X7_rounded_32 h636 ?_
  refine lv_lstore (lv' := [(9, .long (x5 / xs0)), (7, .long xs0), (1, .long x1), (3, .long x3), (5, .long x5)]) hx hb d_X7_rounded_33 hl (by decide) rfl (fun ls hl => ?_)
  refine lv_lload hx hb d_X7_rounded_35 (lv_at hl 4 rfl) ?_
  refine lv_lload hx hb d_X7_rounded_37 (lv_at hl 1 rfl) ?_
  obtain ⟨h637, hv⟩ := hv
  refine lv_lrem hx hb d_X7_rounded_39 h637 ?_
  refine lv_lstore (lv' := [(11, .long (x5 - x5 / xs0 * xs0)), (9, .long (x5 / xs0)), (7, .long xs0), (1, .long x1), (3, .long x3), (5, .long x5)]) hx hb d_X7_rounded_40 hl (by decide) rfl (fun ls hl => ?_)
  refine lv_lload hx hb d_X7_rounded_42 (lv_at hl 0 rfl) ?_
  refine lv_lload hx hb d_X7_rounded_44 (lv_at hl 2 rfl) ?_
  refine lv_lload hx hb d_X7_rounded_46 (lv_at hl 0 rfl) ?_
  refine lv_lsub hx hb d_X7_rounded_48 ?_
  refine W.lcmp hx hb d_X7_rounded_49 ?_
  refine lv_if_lt (tgt := 59) hx hb d_X7_rounded_50 (by decide) (fun hc => ?_) (fun hc => ?_)
  · have hv := hv.1 ((lg_cmp_lt _ _).mp hc)
    exact w_X7_rounded_59 hcx x1 x3 (x5 / xs0) I L Q  hv hP hD hS (lv_sub hl [3, 4, 1] rfl)
  · have hv := hv.2 (fun q => hc ((lg_cmp_lt _ _).mpr q))
    refine lv_lload hx hb d_X7_rounded_53 (lv_at hl 1 rfl) ?_
    refine lv_lconst (v := 1) hx hb d_X7_rounded_55 (by decide) ?_
    refine lv_ladd hx hb d_X7_rounded_56 ?_
    refine lv_lstore (lv' := [(9, .long ((x5 / xs0) + 1)), (11, .long (x5 - x5 / xs0 * xs0)), (7, .long xs0), (1, .long x1), (3, .long x3), (5, .long x5)]) hx hb d_X7_rounded_57 hl (by decide) rfl (fun ls hl => ?_)
    exact w_X7_rounded_59 hcx x1 x3 ((x5 / xs0) + 1) I L Q  hv hP hD hS (lv_sub hl [3, 4, 0] rfl)
set_option maxHeartbeats 4000000 in
set_option maxRecDepth 100000 in
theorem w_X7_rounded_12 {p : Program} {l : Launch} {e : Env} {s : State} {m : MethodId} {args : Array Value} {below : List Frame} {meth : Method} {c : Code} {G : mm_G} (hcx : mm_cx c_X7_rounded (some .long) 13 RX7 G p s m args meth c) (x1 : Int64) (x3 : Int64) (xs0 : Int64) (I : mm_I) (L : mm_L) (Q : Int64 → mm_I → mm_L → Prop)  (hv : vc_X7_rounded_12 x1 x3 xs0 I L Q) {H : Heap} {locs : List Loc} (hP : mm_PW G I L H) (hD : mm_DW G I L) (hS : va_S G.2.2.2.1 s.heap H locs) {ls : Array Slot} (hl : lv_has ls 13 [(1, .long x1), (3, .long x3)]) : W p l e (headSpec w_X7_rounded rm_X7_rounded).room s m args below meth c H locs 0 0 (MQ below (mm_ql G Q) args s 0 0 G.2.2.2.1) (F0 m 12 ls [.long xs0]) := by
  obtain ⟨hx, hb, hr, hlocks, hml, hown, hg, hK, hC⟩ := id hcx
  unfold vc_X7_rounded_12 at hv
  refine lv_lstore (lv' := [(5, .long xs0), (1, .long x1), (3, .long x3)]) hx hb d_X7_rounded_12 hl (by decide) rfl (fun ls hl => ?_)
  refine lv_lload_n hx hb d_X7_rounded_14 rfl (lv_at hl 2 rfl) ?_
  refine lv_lconst (v := 0) hx hb d_X7_rounded_15 (by decide) ?_
  refine W.lcmp hx hb d_X7_rounded_16 ?_
  refine lv_if_ge (tgt := 25) hx hb d_X7_rounded_17 (by decide) (fun hc => ?_) (fun hc => ?_)
  · have hv := hv.1 ((lg_cmp_ge _ _).mp hc)
    refine lv_lload_n hx hb d_X7_rounded_25 rfl (lv_at hl 2 rfl) ?_
    exact w_X7_rounded_26 hcx x1 x3 xs0 x3 I L Q  hv hP hD hS (lv_sub hl [1, 2, 0] rfl)
  · have hv := hv.2 (fun q => hc ((lg_cmp_ge _ _).mpr q))
    refine lv_lload_n hx hb d_X7_rounded_20 rfl (lv_at hl 2 rfl) ?_
    refine lv_lneg hx hb d_X7_rounded_21 ?_
    refine lv_goto (tgt := 26) hx hb d_X7_rounded_22 (by decide) ?_
    exact w_X7_rounded_26 hcx x1 x3 xs0 (-x3) I L Q  hv hP hD hS (lv_sub hl [1, 2, 0] rfl)
set_option maxHeartbeats 4000000 in
set_option maxRecDepth 100000 in
theorem w_X7_rounded_0 {p : Program} {l : Launch} {e : Env} {s : State} {m : MethodId} {args : Array Value} {below : List Frame} {meth : Method} {c : Code} {G : mm_G} (hcx : mm_cx c_X7_rounded (some .long) 13 RX7 G p s m args meth c) (x1 : Int64) (x3 : Int64) (I : mm_I) (L : mm_L) (Q : Int64 → mm_I → mm_L → Prop)  (hv : vc_X7_rounded_0 x1 x3 I L Q) {H : Heap} {locs : List Loc} (hP : mm_PW G I L H) (hD : mm_DW G I L) (hS : va_S G.2.2.2.1 s.heap H locs) {ls : Array Slot} (hl : lv_has ls 13 [(0, .ref (G.2.2.1 36)), (1, .long x1), (3, .long x3)]) : W p l e (headSpec w_X7_rounded rm_X7_rounded).room s m args below meth c H locs 0 0 (MQ below (mm_ql G Q) args s 0 0 G.2.2.2.1) (F0 m 0 ls []) := by
  obtain ⟨hx, hb, hr, hlocks, hml, hown, hg, hK, hC⟩ := id hcx
  unfold vc_X7_rounded_0 at hv
  refine lv_lload_n hx hb d_X7_rounded_0 rfl (lv_at hl 1 rfl) ?_
  refine lv_lconst (v := 0) hx hb d_X7_rounded_1 (by decide) ?_
  refine W.lcmp hx hb d_X7_rounded_2 ?_
  refine lv_if_ge (tgt := 11) hx hb d_X7_rounded_3 (by decide) (fun hc => ?_) (fun hc => ?_)
  · have hv := hv.1 ((lg_cmp_ge _ _).mp hc)
    refine lv_lload_n hx hb d_X7_rounded_11 rfl (lv_at hl 1 rfl) ?_
    exact w_X7_rounded_12 hcx x1 x3 x1 I L Q  hv hP hD hS (lv_sub hl [1, 2] rfl)
  · have hv := hv.2 (fun q => hc ((lg_cmp_ge _ _).mpr q))
    refine lv_lload_n hx hb d_X7_rounded_6 rfl (lv_at hl 1 rfl) ?_
    refine lv_lneg hx hb d_X7_rounded_7 ?_
    refine lv_goto (tgt := 12) hx hb d_X7_rounded_8 (by decide) ?_
    exact w_X7_rounded_12 hcx x1 x3 (-x1) I L Q  hv hP hD hS (lv_sub hl [1, 2] rfl)
abbrev vc_X7_rounded (x1 : Int64) (x3 : Int64) (I : mm_I) (L : mm_L) (Q : Int64 → mm_I → mm_L → Prop) : Prop := vc_X7_rounded_0 x1 x3 I L Q
set_option maxHeartbeats 4000000 in
set_option maxRecDepth 100000 in
theorem m_X7_rounded (l : Launch) (G : mm_G) (x1 : Int64) (x3 : Int64) (I : mm_I) (L : mm_L) (Q : Int64 → mm_I → mm_L → Prop)  (hv : vc_X7_rounded x1 x3 I L Q) : Met l y_X7_rounded w_X7_rounded rm_X7_rounded (mm_pre G [.ref (G.2.2.1 36), .long x1, .long x3] I L) (mm_ql G Q) 0 0 G.2.2.2.1 := by
  refine Met.ofW (cc := c_X7_rounded) (maxL := 13) (ret := (some .long)) (by decide) rfl ?_
  intro p e s m args below meth c s₁ B hml hw
  obtain ⟨rfl, hP, hK, hD, hC⟩ := hw
  have hts := atoms_spec (ws := w_X7_rounded) B.pre
  have hown : s.vm.findClass RX7 = some m.cls := findClass_of_methodNamed B.named
  have hl := lv_entry ([.ref (G.2.2.1 36), .long x1, .long x3]) (n := 13) (Nat.le_of_ble_eq_true rfl)
  rw [lg_entry_eq]
  generalize (lg_sl ([.ref (G.2.2.1 36), .long x1, .long x3]) ++ List.replicate (13 - (lg_sl ([.ref (G.2.2.1 36), .long x1, .long x3])).length) Slot.unset).toArray = ls at hl ⊢
  have hl : lv_has ls 13 [(0, .ref (G.2.2.1 36)), (1, .long x1), (3, .long x3)] := hl
  exact w_X7_rounded_0 ⟨B.exec, B.bytes, B.returns, B.notSynchronized, hml, hown, fun w h => hts w (List.mem_cons_of_mem _ h), hK, hC⟩ x1 x3 I L Q  hv hP hD va_S.rf hl
abbrev rm_X7_stops : Room := { frames := 0, cells := 0, slots := 0, locals := 0 }
def vc_X7_stops_0 (x1 : Int64) (I : mm_I) (L : mm_L) (Q : Int64 → mm_I → mm_L → Prop) : Prop :=
  (¬ x1 = 1000000000001 → (x1 ≤ 1000000000100 → Q 0 I L) ∧ (¬ x1 ≤ 1000000000100 → Q x1 I L)) ∧ (x1 = 1000000000001 → Q 1000000000102 I L)
set_option maxHeartbeats 4000000 in
set_option maxRecDepth 100000 in
theorem w_X7_stops_0 {p : Program} {l : Launch} {e : Env} {s : State} {m : MethodId} {args : Array Value} {below : List Frame} {meth : Method} {c : Code} {G : mm_G} (hcx : mm_cx c_X7_stops (some .long) 3 RX7 G p s m args meth c) (x1 : Int64) (I : mm_I) (L : mm_L) (Q : Int64 → mm_I → mm_L → Prop)  (hv : vc_X7_stops_0 x1 I L Q) {H : Heap} {locs : List Loc} (hP : mm_PW G I L H) (hD : mm_DW G I L) (hS : va_S G.2.2.2.1 s.heap H locs) {ls : Array Slot} (hl : lv_has ls 3 [(0, .ref (G.2.2.1 36)), (1, .long x1)]) : W p l e (headSpec w_X7_stops rm_X7_stops).room s m args below meth c H locs 0 0 (MQ below (mm_ql G Q) args s 0 0 G.2.2.2.1) (F0 m 0 ls []) := by
  obtain ⟨hx, hb, hr, hlocks, hml, hown, hg, hK, hC⟩ := id hcx
  unfold vc_X7_stops_0 at hv
  refine lv_lload_n hx hb d_X7_stops_0 rfl (lv_at hl 1 rfl) ?_
  refine lv_ldc2 (v := 1000000000001) hx hb hown (hg _ k_254) d_X7_stops_1 ?_
  refine W.lcmp hx hb d_X7_stops_4 ?_
  refine lv_if_ne (tgt := 14) hx hb d_X7_stops_5 (by decide) (fun hc => ?_) (fun hc => ?_)
  · have hv := hv.1 (fun q => hc ((lg_cmp_eq _ _).mpr q))
    refine lv_lload_n hx hb d_X7_stops_14 rfl (lv_at hl 1 rfl) ?_
    refine lv_ldc2 (v := 1000000000100) hx hb hown (hg _ k_255) d_X7_stops_15 ?_
    refine W.lcmp hx hb d_X7_stops_18 ?_
    refine lv_if_le (tgt := 26) hx hb d_X7_stops_19 (by decide) (fun hc => ?_) (fun hc => ?_)
    · have hv := hv.1 ((lg_cmp_le _ _).mp hc)
      refine lv_lconst (v := 0) hx hb d_X7_stops_26 (by decide) ?_
      exact W.lret (v := 0) hx hb hr (fun t ht hW => ⟨⟨0, (I, L), rfl, hv, mm_mv ht hP⟩, hS.F ht⟩) hS.2.2 d_X7_stops_27
    · have hv := hv.2 (fun q => hc ((lg_cmp_le _ _).mpr q))
      refine lv_lload_n hx hb d_X7_stops_22 rfl (lv_at hl 1 rfl) ?_
      refine lv_goto (tgt := 27) hx hb d_X7_stops_23 (by decide) ?_
      exact W.lret (v := x1) hx hb hr (fun t ht hW => ⟨⟨x1, (I, L), rfl, hv, mm_mv ht hP⟩, hS.F ht⟩) hS.2.2 d_X7_stops_27
  · have hv := hv.2 ((lg_cmp_eq _ _).mp hc)
    refine lv_ldc2 (v := 1000000000102) hx hb hown (hg _ k_256) d_X7_stops_8 ?_
    refine lv_goto (tgt := 27) hx hb d_X7_stops_11 (by decide) ?_
    exact W.lret (v := 1000000000102) hx hb hr (fun t ht hW => ⟨⟨1000000000102, (I, L), rfl, hv, mm_mv ht hP⟩, hS.F ht⟩) hS.2.2 d_X7_stops_27
abbrev vc_X7_stops (x1 : Int64) (I : mm_I) (L : mm_L) (Q : Int64 → mm_I → mm_L → Prop) : Prop := vc_X7_stops_0 x1 I L Q
set_option maxHeartbeats 4000000 in
set_option maxRecDepth 100000 in
theorem m_X7_stops (l : Launch) (G : mm_G) (x1 : Int64) (I : mm_I) (L : mm_L) (Q : Int64 → mm_I → mm_L → Prop)  (hv : vc_X7_stops x1 I L Q) : Met l y_X7_stops w_X7_stops rm_X7_stops (mm_pre G [.ref (G.2.2.1 36), .long x1] I L) (mm_ql G Q) 0 0 G.2.2.2.1 := by
  refine Met.ofW (cc := c_X7_stops) (maxL := 3) (ret := (some .long)) (by decide) rfl ?_
  intro p e s m args below meth c s₁ B hml hw
  obtain ⟨rfl, hP, hK, hD, hC⟩ := hw
  have hts := atoms_spec (ws := w_X7_stops) B.pre
  have hown : s.vm.findClass RX7 = some m.cls := findClass_of_methodNamed B.named
  have hl := lv_entry ([.ref (G.2.2.1 36), .long x1]) (n := 3) (Nat.le_of_ble_eq_true rfl)
  rw [lg_entry_eq]
  generalize (lg_sl ([.ref (G.2.2.1 36), .long x1]) ++ List.replicate (3 - (lg_sl ([.ref (G.2.2.1 36), .long x1])).length) Slot.unset).toArray = ls at hl ⊢
  have hl : lv_has ls 3 [(0, .ref (G.2.2.1 36)), (1, .long x1)] := hl
  exact w_X7_stops_0 ⟨B.exec, B.bytes, B.returns, B.notSynchronized, hml, hown, fun w h => hts w (List.mem_cons_of_mem _ h), hK, hC⟩ x1 I L Q  hv hP hD va_S.rf hl
abbrev rm_X7_scale : Room := { frames := 1, cells := 0, slots := 0, locals := 32 }
def vc_X7_scale_11 : Nat → Int32 → Int64 → Int64 → Int64 → Int32 → mm_I → mm_L → (Int64 → mm_I → mm_L → Prop) → Prop
  | 0, _, _, _, _, _, _, _, _ => False
  | n9 + 1, x1, x2, x4, x6, x8, I, L, Q => vp_in x1 2 ∧ (((x1 * 5) + (I 44 x1.toNatClampNeg)) ≤ x8 → (0 < x2 → vc_X7_rounded x4 1000 I L (fun r641 I639 L640 => Q r641 I639 L640)) ∧ (¬ 0 < x2 → Q 0 I L)) ∧ (¬ ((x1 * 5) + (I 44 x1.toNatClampNeg)) ≤ x8 → vp_in x8 10 ∧ (((I 45 x8.toNatClampNeg)).toInt64 ≤ x2 → vp_in x8 10 ∧ (((I 45 x8.toNatClampNeg)).toInt64 ≤ x6 → vp_in x8 10 ∧ vc_X7_scale_11 n9 x1 x2 x4 (((I 45 x8.toNatClampNeg)).toInt64) (x8 + 1) I L Q) ∧ (¬ ((I 45 x8.toNatClampNeg)).toInt64 ≤ x6 → vp_in x8 10 ∧ vp_in x8 10 ∧ vc_X7_scale_11 n9 x1 x2 (x4 + ((((I 45 x8.toNatClampNeg)).toInt64 - x6) * ((I 46 x8.toNatClampNeg)).toInt64)) (((I 45 x8.toNatClampNeg)).toInt64) (x8 + 1) I L Q)) ∧ (¬ ((I 45 x8.toNatClampNeg)).toInt64 ≤ x2 → (x2 ≤ x6 → vp_in x8 10 ∧ vc_X7_scale_11 n9 x1 x2 x4 (((I 45 x8.toNatClampNeg)).toInt64) (x8 + 1) I L Q) ∧ (¬ x2 ≤ x6 → vp_in x8 10 ∧ vp_in x8 10 ∧ vc_X7_scale_11 n9 x1 x2 (x4 + ((x2 - x6) * ((I 46 x8.toNatClampNeg)).toInt64)) (((I 45 x8.toNatClampNeg)).toInt64) (x8 + 1) I L Q)))
def vc_X7_scale_0 (x1 : Int32) (x2 : Int64) (I : mm_I) (L : mm_L) (Q : Int64 → mm_I → mm_L → Prop) : Prop :=
  ∃ n, vc_X7_scale_11 n x1 x2 0 0 (x1 * 5) I L Q
set_option maxHeartbeats 4000000 in
set_option maxRecDepth 100000 in
theorem w_X7_scale_11 {p : Program} {l : Launch} {e : Env} {s : State} {m : MethodId} {args : Array Value} {below : List Frame} {meth : Method} {c : Code} {G : mm_G} (hcx : mm_cx c_X7_scale (some .long) 11 RX7 G p s m args meth c) (Q : Int64 → mm_I → mm_L → Prop) : ∀ (n9 : Nat) (x1 : Int32) (x2 : Int64) (x4 : Int64) (x6 : Int64) (x8 : Int32) (I : mm_I) (L : mm_L)  (H : Heap) (locs : List Loc) (ls : Array Slot), vc_X7_scale_11 n9 x1 x2 x4 x6 x8 I L Q → mm_PW G I L H → mm_DW G I L → va_S G.2.2.2.1 s.heap H locs → lv_has ls 11 [(0, .ref (G.2.2.1 36)), (1, .int x1), (2, .long x2), (4, .long x4), (6, .long x6), (8, .int x8)] → W p l e (headSpec w_X7_scale rm_X7_scale).room s m args below meth c H locs 0 0 (MQ below (mm_ql G Q) args s 0 0 G.2.2.2.1) (F0 m 11 ls []) := by
  obtain ⟨hx, hb, hr, hlocks, hml, hown, hg, hK, hC⟩ := id hcx
  intro n9
  induction n9 with
  | zero => intro x1 x2 x4 x6 x8 I L H locs ls hv hP hD hS hl; exact hv.elim
  | succ n9 ih =>
    intro x1 x2 x4 x6 x8 I L H locs ls hv hP hD hS hl
    rw [vc_X7_scale_11] at hv
    refine lv_iload hx hb d_X7_scale_11 (lv_at hl 5 rfl) ?_
    refine lv_iload_n hx hb d_X7_scale_13 rfl (lv_at hl 1 rfl) ?_
    refine lv_iconst (v := 5) hx hb d_X7_scale_14 (by decide) ?_
    refine lv_imul hx hb d_X7_scale_15 ?_
    refine lv_aload_n hx hb d_X7_scale_16 rfl (lv_at hl 0 rfl) ?_
    refine mm_gr (D := G.1) (C := RX7) (T := TX7) (N0 := 21) (r := 44) hx hb hg in_X7 hown hK hP (t := 36) (by decide) rfl rfl 9 (by decide) (hg _ k_243) (fun _ h9 => h9) rfl d_X7_scale_17 ?_
    refine lv_iload_n hx hb d_X7_scale_20 rfl (lv_at hl 1 rfl) ?_
    obtain ⟨h638, hv⟩ := hv
    refine mm_iald (D := G.1) hx hb hK hP (t := 44) (by decide) rfl rfl h638 d_X7_scale_21 ?_
    refine lv_iadd hx hb d_X7_scale_22 ?_
    refine lv_icmp_ge (tgt := 96) hx hb d_X7_scale_23 (by decide) (fun hc => ?_) (fun hc => ?_)
    · have hv := hv.1 hc
      refine lv_lload_n hx hb d_X7_scale_96 rfl (lv_at hl 2 rfl) ?_
      refine lv_lconst (v := 0) hx hb d_X7_scale_97 (by decide) ?_
      refine W.lcmp hx hb d_X7_scale_98 ?_
      refine lv_if_gt (tgt := 106) hx hb d_X7_scale_99 (by decide) (fun hc => ?_) (fun hc => ?_)
      · have hv := hv.1 ((lg_cmp_gt _ _).mp hc)
        refine lv_aload_n hx hb d_X7_scale_106 rfl (lv_at hl 0 rfl) ?_
        refine lv_lload hx hb d_X7_scale_107 (lv_at hl 3 rfl) ?_
        refine lv_ldc2 (v := 1000) hx hb hown (hg _ k_257) d_X7_scale_109 ?_
        refine va_calll (va_runV (As := [.long x4, .long 1000]) (rest := []) ⟨hx, hb, hml, hown, hg⟩ (m_X7_rounded l G x4 1000 I L _  hv) (cwV 2 hg (mm_gV k_258 k_259 k_260 k_223 kc_X7_rounded) rfl rfl rfl (by decide +kernel) ⟨Nat.le_of_ble_eq_true rfl, Nat.le_of_ble_eq_true rfl⟩) ⟨mm_blind, mm_recv hK hP (t := 36) (by decide) rfl rfl, fun U hU hW => mm_call hP hK hD hC hU hS hW⟩ rfl rfl hl.1 rfl (lv_room (Nat.le_of_ble_eq_true rfl)) d_X7_scale_112 ⟨Nat.zero_le _, Nat.zero_le _⟩) hS (fun q _ h => h) (fun q h => h) (fun r641 u t H locs ht hvm hv hP hz1 hk1 hS => ?_)
        obtain ⟨I639, L640⟩ := u
        dsimp only at hv hP
        rw [ht] at hP
        have hD : mm_DW G I639 L640 := mm_D_any hD
        exact W.lret (v := r641) hx hb hr (fun t ht hW => ⟨⟨r641, (I639, L640), rfl, hv, mm_mv ht hP⟩, hS.F ht⟩) hS.2.2 d_X7_scale_115
      · have hv := hv.2 (fun q => hc ((lg_cmp_gt _ _).mpr q))
        refine lv_lconst (v := 0) hx hb d_X7_scale_102 (by decide) ?_
        refine lv_goto (tgt := 115) hx hb d_X7_scale_103 (by decide) ?_
        exact W.lret (v := 0) hx hb hr (fun t ht hW => ⟨⟨0, (I, L), rfl, hv, mm_mv ht hP⟩, hS.F ht⟩) hS.2.2 d_X7_scale_115
    · have hv := hv.2 hc
      refine lv_lload_n hx hb d_X7_scale_26 rfl (lv_at hl 2 rfl) ?_
      refine lv_aload_n hx hb d_X7_scale_27 rfl (lv_at hl 0 rfl) ?_
      refine mm_gr (D := G.1) (C := RX7) (T := TX7) (N0 := 21) (r := 45) hx hb hg in_X7 hown hK hP (t := 36) (by decide) rfl rfl 10 (by decide) (hg _ k_244) (fun _ h9 => h9) rfl d_X7_scale_28 ?_
      refine lv_iload hx hb d_X7_scale_31 (lv_at hl 5 rfl) ?_
      obtain ⟨h642, hv⟩ := hv
      refine mm_iald (D := G.1) hx hb hK hP (t := 45) (by decide) rfl rfl h642 d_X7_scale_33 ?_
      refine lv_i2l (v := ((I 45 x8.toNatClampNeg)).toInt64) hx hb d_X7_scale_34 rfl ?_
      refine W.lcmp hx hb d_X7_scale_35 ?_
      refine lv_if_ge (tgt := 43) hx hb d_X7_scale_36 (by decide) (fun hc => ?_) (fun hc => ?_)
      · have hv := hv.1 ((lg_cmp_ge _ _).mp hc)
        refine lv_aload_n hx hb d_X7_scale_43 rfl (lv_at hl 0 rfl) ?_
        refine mm_gr (D := G.1) (C := RX7) (T := TX7) (N0 := 21) (r := 45) hx hb hg in_X7 hown hK hP (t := 36) (by decide) rfl rfl 10 (by decide) (hg _ k_244) (fun _ h9 => h9) rfl d_X7_scale_44 ?_
        refine lv_iload hx hb d_X7_scale_47 (lv_at hl 5 rfl) ?_
        obtain ⟨h643, hv⟩ := hv
        refine mm_iald (D := G.1) hx hb hK hP (t := 45) (by decide) rfl rfl h643 d_X7_scale_49 ?_
        refine lv_i2l (v := ((I 45 x8.toNatClampNeg)).toInt64) hx hb d_X7_scale_50 rfl ?_
        refine lv_lstore (lv' := [(9, .long ((I 45 x8.toNatClampNeg)).toInt64), (0, .ref (G.2.2.1 36)), (1, .int x1), (2, .long x2), (4, .long x4), (6, .long x6), (8, .int x8)]) hx hb d_X7_scale_51 hl (by decide) rfl (fun ls hl => ?_)
        refine lv_lload hx hb d_X7_scale_53 (lv_at hl 0 rfl) ?_
        refine lv_lload hx hb d_X7_scale_55 (lv_at hl 5 rfl) ?_
        refine W.lcmp hx hb d_X7_scale_57 ?_
        refine lv_if_le (tgt := 80) hx hb d_X7_scale_58 (by decide) (fun hc => ?_) (fun hc => ?_)
        · have hv := hv.1 ((lg_cmp_le _ _).mp hc)
          refine lv_aload_n hx hb d_X7_scale_80 rfl (lv_at hl 1 rfl) ?_
          refine mm_gr (D := G.1) (C := RX7) (T := TX7) (N0 := 21) (r := 45) hx hb hg in_X7 hown hK hP (t := 36) (by decide) rfl rfl 10 (by decide) (hg _ k_244) (fun _ h9 => h9) rfl d_X7_scale_81 ?_
          refine lv_iload hx hb d_X7_scale_84 (lv_at hl 6 rfl) ?_
          obtain ⟨h644, hv⟩ := hv
          refine mm_iald (D := G.1) hx hb hK hP (t := 45) (by decide) rfl rfl h644 d_X7_scale_86 ?_
          refine lv_i2l (v := ((I 45 x8.toNatClampNeg)).toInt64) hx hb d_X7_scale_87 rfl ?_
          refine lv_lstore (lv' := [(6, .long ((I 45 x8.toNatClampNeg)).toInt64), (9, .long ((I 45 x8.toNatClampNeg)).toInt64), (0, .ref (G.2.2.1 36)), (1, .int x1), (2, .long x2), (4, .long x4), (8, .int x8)]) hx hb d_X7_scale_88 hl (by decide) rfl (fun ls hl => ?_)
          refine lv_iinc (v := (x8 + 1)) (lv' := [(8, .int (x8 + 1)), (6, .long ((I 45 x8.toNatClampNeg)).toInt64), (9, .long ((I 45 x8.toNatClampNeg)).toInt64), (0, .ref (G.2.2.1 36)), (1, .int x1), (2, .long x2), (4, .long x4)]) hx hb d_X7_scale_90 hl (k := 6) rfl (by rfl) (by decide) rfl (fun ls hl => ?_)
          refine lv_goto (tgt := 11) hx hb d_X7_scale_93 (by decide) ?_
          exact ih x1 x2 x4 (((I 45 x8.toNatClampNeg)).toInt64) (x8 + 1) I L  H locs ls hv hP hD hS (lv_sub hl [3, 4, 5, 6, 1, 0] rfl)
        · have hv := hv.2 (fun q => hc ((lg_cmp_le _ _).mpr q))
          refine lv_lload hx hb d_X7_scale_61 (lv_at hl 4 rfl) ?_
          refine lv_lload hx hb d_X7_scale_63 (lv_at hl 0 rfl) ?_
          refine lv_lload hx hb d_X7_scale_65 (lv_at hl 5 rfl) ?_
          refine lv_lsub hx hb d_X7_scale_67 ?_
          refine lv_aload_n hx hb d_X7_scale_68 rfl (lv_at hl 1 rfl) ?_
          refine mm_gr (D := G.1) (C := RX7) (T := TX7) (N0 := 21) (r := 46) hx hb hg in_X7 hown hK hP (t := 36) (by decide) rfl rfl 11 (by decide) (hg _ k_245) (fun _ h9 => h9) rfl d_X7_scale_69 ?_
          refine lv_iload hx hb d_X7_scale_72 (lv_at hl 6 rfl) ?_
          obtain ⟨h645, hv⟩ := hv
          refine mm_iald (D := G.1) hx hb hK hP (t := 46) (by decide) rfl rfl h645 d_X7_scale_74 ?_
          refine lv_i2l (v := ((I 46 x8.toNatClampNeg)).toInt64) hx hb d_X7_scale_75 rfl ?_
          refine lv_lmul hx hb d_X7_scale_76 ?_
          refine lv_ladd hx hb d_X7_scale_77 ?_
          refine lv_lstore (lv' := [(4, .long (x4 + ((((I 45 x8.toNatClampNeg)).toInt64 - x6) * ((I 46 x8.toNatClampNeg)).toInt64))), (9, .long ((I 45 x8.toNatClampNeg)).toInt64), (0, .ref (G.2.2.1 36)), (1, .int x1), (2, .long x2), (6, .long x6), (8, .int x8)]) hx hb d_X7_scale_78 hl (by decide) rfl (fun ls hl => ?_)
          refine lv_aload_n hx hb d_X7_scale_80 rfl (lv_at hl 2 rfl) ?_
          refine mm_gr (D := G.1) (C := RX7) (T := TX7) (N0 := 21) (r := 45) hx hb hg in_X7 hown hK hP (t := 36) (by decide) rfl rfl 10 (by decide) (hg _ k_244) (fun _ h9 => h9) rfl d_X7_scale_81 ?_
          refine lv_iload hx hb d_X7_scale_84 (lv_at hl 6 rfl) ?_
          obtain ⟨h646, hv⟩ := hv
          refine mm_iald (D := G.1) hx hb hK hP (t := 45) (by decide) rfl rfl h646 d_X7_scale_86 ?_
          refine lv_i2l (v := ((I 45 x8.toNatClampNeg)).toInt64) hx hb d_X7_scale_87 rfl ?_
          refine lv_lstore (lv' := [(6, .long ((I 45 x8.toNatClampNeg)).toInt64), (4, .long (x4 + ((((I 45 x8.toNatClampNeg)).toInt64 - x6) * ((I 46 x8.toNatClampNeg)).toInt64))), (9, .long ((I 45 x8.toNatClampNeg)).toInt64), (0, .ref (G.2.2.1 36)), (1, .int x1), (2, .long x2), (8, .int x8)]) hx hb d_X7_scale_88 hl (by decide) rfl (fun ls hl => ?_)
          refine lv_iinc (v := (x8 + 1)) (lv' := [(8, .int (x8 + 1)), (6, .long ((I 45 x8.toNatClampNeg)).toInt64), (4, .long (x4 + ((((I 45 x8.toNatClampNeg)).toInt64 - x6) * ((I 46 x8.toNatClampNeg)).toInt64))), (9, .long ((I 45 x8.toNatClampNeg)).toInt64), (0, .ref (G.2.2.1 36)), (1, .int x1), (2, .long x2)]) hx hb d_X7_scale_90 hl (k := 6) rfl (by rfl) (by decide) rfl (fun ls hl => ?_)
          refine lv_goto (tgt := 11) hx hb d_X7_scale_93 (by decide) ?_
          exact ih x1 x2 (x4 + ((((I 45 x8.toNatClampNeg)).toInt64 - x6) * ((I 46 x8.toNatClampNeg)).toInt64)) (((I 45 x8.toNatClampNeg)).toInt64) (x8 + 1) I L  H locs ls hv hP hD hS (lv_sub hl [4, 5, 6, 2, 1, 0] rfl)
      · have hv := hv.2 (fun q => hc ((lg_cmp_ge _ _).mpr q))
        refine lv_lload_n hx hb d_X7_scale_39 rfl (lv_at hl 2 rfl) ?_
        refine lv_goto (tgt := 51) hx hb d_X7_scale_40 (by decide) ?_
        refine lv_lstore (lv' := [(9, .long x2), (0, .ref (G.2.2.1 36)), (1, .int x1), (2, .long x2), (4, .long x4), (6, .long x6), (8, .int x8)]) hx hb d_X7_scale_51 hl (by decide) rfl (fun ls hl => ?_)
        refine lv_lload hx hb d_X7_scale_53 (lv_at hl 0 rfl) ?_
        refine lv_lload hx hb d_X7_scale_55 (lv_at hl 5 rfl) ?_
        refine W.lcmp hx hb d_X7_scale_57 ?_
        refine lv_if_le (tgt := 80) hx hb d_X7_scale_58 (by decide) (fun hc => ?_) (fun hc => ?_)
        · have hv := hv.1 ((lg_cmp_le _ _).mp hc)
          refine lv_aload_n hx hb d_X7_scale_80 rfl (lv_at hl 1 rfl) ?_
          refine mm_gr (D := G.1) (C := RX7) (T := TX7) (N0 := 21) (r := 45) hx hb hg in_X7 hown hK hP (t := 36) (by decide) rfl rfl 10 (by decide) (hg _ k_244) (fun _ h9 => h9) rfl d_X7_scale_81 ?_
          refine lv_iload hx hb d_X7_scale_84 (lv_at hl 6 rfl) ?_
          obtain ⟨h647, hv⟩ := hv
          refine mm_iald (D := G.1) hx hb hK hP (t := 45) (by decide) rfl rfl h647 d_X7_scale_86 ?_
          refine lv_i2l (v := ((I 45 x8.toNatClampNeg)).toInt64) hx hb d_X7_scale_87 rfl ?_
          refine lv_lstore (lv' := [(6, .long ((I 45 x8.toNatClampNeg)).toInt64), (9, .long x2), (0, .ref (G.2.2.1 36)), (1, .int x1), (2, .long x2), (4, .long x4), (8, .int x8)]) hx hb d_X7_scale_88 hl (by decide) rfl (fun ls hl => ?_)
          refine lv_iinc (v := (x8 + 1)) (lv' := [(8, .int (x8 + 1)), (6, .long ((I 45 x8.toNatClampNeg)).toInt64), (9, .long x2), (0, .ref (G.2.2.1 36)), (1, .int x1), (2, .long x2), (4, .long x4)]) hx hb d_X7_scale_90 hl (k := 6) rfl (by rfl) (by decide) rfl (fun ls hl => ?_)
          refine lv_goto (tgt := 11) hx hb d_X7_scale_93 (by decide) ?_
          exact ih x1 x2 x4 (((I 45 x8.toNatClampNeg)).toInt64) (x8 + 1) I L  H locs ls hv hP hD hS (lv_sub hl [3, 4, 5, 6, 1, 0] rfl)
        · have hv := hv.2 (fun q => hc ((lg_cmp_le _ _).mpr q))
          refine lv_lload hx hb d_X7_scale_61 (lv_at hl 4 rfl) ?_
          refine lv_lload hx hb d_X7_scale_63 (lv_at hl 0 rfl) ?_
          refine lv_lload hx hb d_X7_scale_65 (lv_at hl 5 rfl) ?_
          refine lv_lsub hx hb d_X7_scale_67 ?_
          refine lv_aload_n hx hb d_X7_scale_68 rfl (lv_at hl 1 rfl) ?_
          refine mm_gr (D := G.1) (C := RX7) (T := TX7) (N0 := 21) (r := 46) hx hb hg in_X7 hown hK hP (t := 36) (by decide) rfl rfl 11 (by decide) (hg _ k_245) (fun _ h9 => h9) rfl d_X7_scale_69 ?_
          refine lv_iload hx hb d_X7_scale_72 (lv_at hl 6 rfl) ?_
          obtain ⟨h648, hv⟩ := hv
          refine mm_iald (D := G.1) hx hb hK hP (t := 46) (by decide) rfl rfl h648 d_X7_scale_74 ?_
          refine lv_i2l (v := ((I 46 x8.toNatClampNeg)).toInt64) hx hb d_X7_scale_75 rfl ?_
          refine lv_lmul hx hb d_X7_scale_76 ?_
          refine lv_ladd hx hb d_X7_scale_77 ?_
          refine lv_lstore (lv' := [(4, .long (x4 + ((x2 - x6) * ((I 46 x8.toNatClampNeg)).toInt64))), (9, .long x2), (0, .ref (G.2.2.1 36)), (1, .int x1), (2, .long x2), (6, .long x6), (8, .int x8)]) hx hb d_X7_scale_78 hl (by decide) rfl (fun ls hl => ?_)
          refine lv_aload_n hx hb d_X7_scale_80 rfl (lv_at hl 2 rfl) ?_
          refine mm_gr (D := G.1) (C := RX7) (T := TX7) (N0 := 21) (r := 45) hx hb hg in_X7 hown hK hP (t := 36) (by decide) rfl rfl 10 (by decide) (hg _ k_244) (fun _ h9 => h9) rfl d_X7_scale_81 ?_
          refine lv_iload hx hb d_X7_scale_84 (lv_at hl 6 rfl) ?_
          obtain ⟨h649, hv⟩ := hv
          refine mm_iald (D := G.1) hx hb hK hP (t := 45) (by decide) rfl rfl h649 d_X7_scale_86 ?_
          refine lv_i2l (v := ((I 45 x8.toNatClampNeg)).toInt64) hx hb d_X7_scale_87 rfl ?_
          refine lv_lstore (lv' := [(6, .long ((I 45 x8.toNatClampNeg)).toInt64), (4, .long (x4 + ((x2 - x6) * ((I 46 x8.toNatClampNeg)).toInt64))), (9, .long x2), (0, .ref (G.2.2.1 36)), (1, .int x1), (2, .long x2), (8, .int x8)]) hx hb d_X7_scale_88 hl (by decide) rfl (fun ls hl => ?_)
          refine lv_iinc (v := (x8 + 1)) (lv' := [(8, .int (x8 + 1)), (6, .long ((I 45 x8.toNatClampNeg)).toInt64), (4, .long (x4 + ((x2 - x6) * ((I 46 x8.toNatClampNeg)).toInt64))), (9, .long x2), (0, .ref (G.2.2.1 36)), (1, .int x1), (2, .long x2)]) hx hb d_X7_scale_90 hl (k := 6) rfl (by rfl) (by decide) rfl (fun ls hl => ?_)
          refine lv_goto (tgt := 11) hx hb d_X7_scale_93 (by decide) ?_
          exact ih x1 x2 (x4 + ((x2 - x6) * ((I 46 x8.toNatClampNeg)).toInt64)) (((I 45 x8.toNatClampNeg)).toInt64) (x8 + 1) I L  H locs ls hv hP hD hS (lv_sub hl [4, 5, 6, 2, 1, 0] rfl)
set_option maxHeartbeats 4000000 in
set_option maxRecDepth 100000 in
theorem w_X7_scale_0 {p : Program} {l : Launch} {e : Env} {s : State} {m : MethodId} {args : Array Value} {below : List Frame} {meth : Method} {c : Code} {G : mm_G} (hcx : mm_cx c_X7_scale (some .long) 11 RX7 G p s m args meth c) (x1 : Int32) (x2 : Int64) (I : mm_I) (L : mm_L) (Q : Int64 → mm_I → mm_L → Prop)  (hv : vc_X7_scale_0 x1 x2 I L Q) {H : Heap} {locs : List Loc} (hP : mm_PW G I L H) (hD : mm_DW G I L) (hS : va_S G.2.2.2.1 s.heap H locs) {ls : Array Slot} (hl : lv_has ls 11 [(0, .ref (G.2.2.1 36)), (1, .int x1), (2, .long x2)]) : W p l e (headSpec w_X7_scale rm_X7_scale).room s m args below meth c H locs 0 0 (MQ below (mm_ql G Q) args s 0 0 G.2.2.2.1) (F0 m 0 ls []) := by
  obtain ⟨hx, hb, hr, hlocks, hml, hown, hg, hK, hC⟩ := id hcx
  unfold vc_X7_scale_0 at hv
  refine lv_lconst (v := 0) hx hb d_X7_scale_0 (by decide) ?_
  refine lv_lstore (lv' := [(4, .long 0), (0, .ref (G.2.2.1 36)), (1, .int x1), (2, .long x2)]) hx hb d_X7_scale_1 hl (by decide) rfl (fun ls hl => ?_)
  refine lv_lconst (v := 0) hx hb d_X7_scale_3 (by decide) ?_
  refine lv_lstore (lv' := [(6, .long 0), (4, .long 0), (0, .ref (G.2.2.1 36)), (1, .int x1), (2, .long x2)]) hx hb d_X7_scale_4 hl (by decide) rfl (fun ls hl => ?_)
  refine lv_iload_n hx hb d_X7_scale_6 rfl (lv_at hl 3 rfl) ?_
  refine lv_iconst (v := 5) hx hb d_X7_scale_7 (by decide) ?_
  refine lv_imul hx hb d_X7_scale_8 ?_
  refine lv_istore (lv' := [(8, .int (x1 * 5)), (6, .long 0), (4, .long 0), (0, .ref (G.2.2.1 36)), (1, .int x1), (2, .long x2)]) hx hb d_X7_scale_9 hl (by decide) rfl (fun ls hl => ?_)
  obtain ⟨n, hv⟩ := hv
  exact w_X7_scale_11 hcx Q n x1 x2 0 0 (x1 * 5) I L  H locs ls hv hP hD hS (lv_sub hl [3, 4, 5, 2, 1, 0] rfl)
abbrev vc_X7_scale (x1 : Int32) (x2 : Int64) (I : mm_I) (L : mm_L) (Q : Int64 → mm_I → mm_L → Prop) : Prop := vc_X7_scale_0 x1 x2 I L Q
set_option maxHeartbeats 4000000 in
set_option maxRecDepth 100000 in
theorem m_X7_scale (l : Launch) (G : mm_G) (x1 : Int32) (x2 : Int64) (I : mm_I) (L : mm_L) (Q : Int64 → mm_I → mm_L → Prop)  (hv : vc_X7_scale x1 x2 I L Q) : Met l y_X7_scale w_X7_scale rm_X7_scale (mm_pre G [.ref (G.2.2.1 36), .int x1, .long x2] I L) (mm_ql G Q) 0 0 G.2.2.2.1 := by
  refine Met.ofW (cc := c_X7_scale) (maxL := 11) (ret := (some .long)) (by decide) rfl ?_
  intro p e s m args below meth c s₁ B hml hw
  obtain ⟨rfl, hP, hK, hD, hC⟩ := hw
  have hts := atoms_spec (ws := w_X7_scale) B.pre
  have hown : s.vm.findClass RX7 = some m.cls := findClass_of_methodNamed B.named
  have hl := lv_entry ([.ref (G.2.2.1 36), .int x1, .long x2]) (n := 11) (Nat.le_of_ble_eq_true rfl)
  rw [lg_entry_eq]
  generalize (lg_sl ([.ref (G.2.2.1 36), .int x1, .long x2]) ++ List.replicate (11 - (lg_sl ([.ref (G.2.2.1 36), .int x1, .long x2])).length) Slot.unset).toArray = ls at hl ⊢
  have hl : lv_has ls 11 [(0, .ref (G.2.2.1 36)), (1, .int x1), (2, .long x2)] := hl
  exact w_X7_scale_0 ⟨B.exec, B.bytes, B.returns, B.notSynchronized, hml, hown, fun w h => hts w (List.mem_cons_of_mem _ h), hK, hC⟩ x1 x2 I L Q  hv hP hD va_S.rf hl
abbrev rm_X7_plain : Room := { frames := 2, cells := 0, slots := 0, locals := 44 }
def vc_X7_plain_104 (x2 : Int64) (x4 : Int64) (xs0 : Int32) (xs1 : Int32) (I : mm_I) (L : mm_L) (Q : Int64 → mm_I → mm_L → Prop) : Prop :=
  (¬ xs1 = xs0 → Q x4 I L) ∧ (xs1 = xs0 → Q x2 I L)
def vc_X7_plain_93 (x1 : Int32) (x2 : Int64) (x4 : Int64) (xs0 : Int32) (I : mm_I) (L : mm_L) (Q : Int64 → mm_I → mm_L → Prop) : Prop :=
  (¬ x1 = 9 → vc_X7_plain_104 x2 x4 0 xs0 I L Q) ∧ (x1 = 9 → vc_X7_plain_104 x2 x4 1 xs0 I L Q)
def vc_X7_plain_0 (x1 : Int32) (x2 : Int64) (x4 : Int64) (I : mm_I) (L : mm_L) (Q : Int64 → mm_I → mm_L → Prop) : Prop :=
  (¬ x1 = 4 → (¬ x1 = 5 → (¬ x1 = 6 → (¬ x1 = 7 → (¬ x1 = 8 → (x4 ≤ x2 → vc_X7_plain_93 x1 x2 x4 0 I L Q) ∧ (¬ x4 ≤ x2 → vc_X7_plain_93 x1 x2 x4 1 I L Q)) ∧ (x1 = 8 → (¬ x2 = x4 → Q 0 I L) ∧ (x2 = x4 → Q 1 I L))) ∧ (x1 = 7 → (x4 ≤ x2 → Q 0 I L) ∧ (¬ x4 ≤ x2 → Q 1 I L))) ∧ (x1 = 6 → vc_X7_ranged (x2 * x4) I L (fun r652 I650 L651 => Q r652 I650 L651))) ∧ (x1 = 5 → vc_X7_ranged (x2 - x4) I L (fun r655 I653 L654 => Q r655 I653 L654))) ∧ (x1 = 4 → vc_X7_ranged (x2 + x4) I L (fun r658 I656 L657 => Q r658 I656 L657))
set_option maxHeartbeats 4000000 in
set_option maxRecDepth 100000 in
theorem w_X7_plain_104 {p : Program} {l : Launch} {e : Env} {s : State} {m : MethodId} {args : Array Value} {below : List Frame} {meth : Method} {c : Code} {G : mm_G} (hcx : mm_cx c_X7_plain (some .long) 6 RX7 G p s m args meth c) (x2 : Int64) (x4 : Int64) (xs0 : Int32) (xs1 : Int32) (I : mm_I) (L : mm_L) (Q : Int64 → mm_I → mm_L → Prop)  (hv : vc_X7_plain_104 x2 x4 xs0 xs1 I L Q) {H : Heap} {locs : List Loc} (hP : mm_PW G I L H) (hD : mm_DW G I L) (hS : va_S G.2.2.2.1 s.heap H locs) {ls : Array Slot} (hl : lv_has ls 6 [(2, .long x2), (4, .long x4)]) : W p l e (headSpec w_X7_plain rm_X7_plain).room s m args below meth c H locs 0 0 (MQ below (mm_ql G Q) args s 0 0 G.2.2.2.1) (F0 m 104 ls [.int xs0, .int xs1]) := by
  obtain ⟨hx, hb, hr, hlocks, hml, hown, hg, hK, hC⟩ := id hcx
  unfold vc_X7_plain_104 at hv
  refine lv_icmp_ne (tgt := 111) hx hb d_X7_plain_104 (by decide) (fun hc => ?_) (fun hc => ?_)
  · have hv := hv.1 hc
    refine lv_lload hx hb d_X7_plain_111 (lv_at hl 1 rfl) ?_
    exact W.lret (v := x4) hx hb hr (fun t ht hW => ⟨⟨x4, (I, L), rfl, hv, mm_mv ht hP⟩, hS.F ht⟩) hS.2.2 d_X7_plain_113
  · have hv := hv.2 hc
    refine lv_lload_n hx hb d_X7_plain_107 rfl (lv_at hl 0 rfl) ?_
    refine lv_goto (tgt := 113) hx hb d_X7_plain_108 (by decide) ?_
    exact W.lret (v := x2) hx hb hr (fun t ht hW => ⟨⟨x2, (I, L), rfl, hv, mm_mv ht hP⟩, hS.F ht⟩) hS.2.2 d_X7_plain_113
set_option maxHeartbeats 4000000 in
set_option maxRecDepth 100000 in
theorem w_X7_plain_93 {p : Program} {l : Launch} {e : Env} {s : State} {m : MethodId} {args : Array Value} {below : List Frame} {meth : Method} {c : Code} {G : mm_G} (hcx : mm_cx c_X7_plain (some .long) 6 RX7 G p s m args meth c) (x1 : Int32) (x2 : Int64) (x4 : Int64) (xs0 : Int32) (I : mm_I) (L : mm_L) (Q : Int64 → mm_I → mm_L → Prop)  (hv : vc_X7_plain_93 x1 x2 x4 xs0 I L Q) {H : Heap} {locs : List Loc} (hP : mm_PW G I L H) (hD : mm_DW G I L) (hS : va_S G.2.2.2.1 s.heap H locs) {ls : Array Slot} (hl : lv_has ls 6 [(1, .int x1), (2, .long x2), (4, .long x4)]) : W p l e (headSpec w_X7_plain rm_X7_plain).room s m args below meth c H locs 0 0 (MQ below (mm_ql G Q) args s 0 0 G.2.2.2.1) (F0 m 93 ls [.int xs0]) := by
  obtain ⟨hx, hb, hr, hlocks, hml, hown, hg, hK, hC⟩ := id hcx
  unfold vc_X7_plain_93 at hv
  refine lv_iload_n hx hb d_X7_plain_93 rfl (lv_at hl 0 rfl) ?_
  refine lv_bipush (v := 9) hx hb d_X7_plain_94 (by decide) ?_
  refine lv_icmp_ne (tgt := 103) hx hb d_X7_plain_96 (by decide) (fun hc => ?_) (fun hc => ?_)
  · have hv := hv.1 hc
    refine lv_iconst (v := 0) hx hb d_X7_plain_103 (by decide) ?_
    exact w_X7_plain_104 hcx x2 x4 0 xs0 I L Q  hv hP hD hS (lv_sub hl [1, 2] rfl)
  · have hv := hv.2 hc
    refine lv_iconst (v := 1) hx hb d_X7_plain_99 (by decide) ?_
    refine lv_goto (tgt := 104) hx hb d_X7_plain_100 (by decide) ?_
    exact w_X7_plain_104 hcx x2 x4 1 xs0 I L Q  hv hP hD hS (lv_sub hl [1, 2] rfl)
set_option maxHeartbeats 4000000 in
set_option maxRecDepth 100000 in
theorem w_X7_plain_0 {p : Program} {l : Launch} {e : Env} {s : State} {m : MethodId} {args : Array Value} {below : List Frame} {meth : Method} {c : Code} {G : mm_G} (hcx : mm_cx c_X7_plain (some .long) 6 RX7 G p s m args meth c) (x1 : Int32) (x2 : Int64) (x4 : Int64) (I : mm_I) (L : mm_L) (Q : Int64 → mm_I → mm_L → Prop)  (hv : vc_X7_plain_0 x1 x2 x4 I L Q) {H : Heap} {locs : List Loc} (hP : mm_PW G I L H) (hD : mm_DW G I L) (hS : va_S G.2.2.2.1 s.heap H locs) {ls : Array Slot} (hl : lv_has ls 6 [(0, .ref (G.2.2.1 36)), (1, .int x1), (2, .long x2), (4, .long x4)]) : W p l e (headSpec w_X7_plain rm_X7_plain).room s m args below meth c H locs 0 0 (MQ below (mm_ql G Q) args s 0 0 G.2.2.2.1) (F0 m 0 ls []) := by
  obtain ⟨hx, hb, hr, hlocks, hml, hown, hg, hK, hC⟩ := id hcx
  unfold vc_X7_plain_0 at hv
  refine lv_iload_n hx hb d_X7_plain_0 rfl (lv_at hl 1 rfl) ?_
  refine lv_iconst (v := 4) hx hb d_X7_plain_1 (by decide) ?_
  refine lv_icmp_ne (tgt := 14) hx hb d_X7_plain_2 (by decide) (fun hc => ?_) (fun hc => ?_)
  · have hv := hv.1 hc
    refine lv_iload_n hx hb d_X7_plain_14 rfl (lv_at hl 1 rfl) ?_
    refine lv_iconst (v := 5) hx hb d_X7_plain_15 (by decide) ?_
    refine lv_icmp_ne (tgt := 28) hx hb d_X7_plain_16 (by decide) (fun hc => ?_) (fun hc => ?_)
    · have hv := hv.1 hc
      refine lv_iload_n hx hb d_X7_plain_28 rfl (lv_at hl 1 rfl) ?_
      refine lv_bipush (v := 6) hx hb d_X7_plain_29 (by decide) ?_
      refine lv_icmp_ne (tgt := 43) hx hb d_X7_plain_31 (by decide) (fun hc => ?_) (fun hc => ?_)
      · have hv := hv.1 hc
        refine lv_iload_n hx hb d_X7_plain_43 rfl (lv_at hl 1 rfl) ?_
        refine lv_bipush (v := 7) hx hb d_X7_plain_44 (by decide) ?_
        refine lv_icmp_ne (tgt := 62) hx hb d_X7_plain_46 (by decide) (fun hc => ?_) (fun hc => ?_)
        · have hv := hv.1 hc
          refine lv_iload_n hx hb d_X7_plain_62 rfl (lv_at hl 1 rfl) ?_
          refine lv_bipush (v := 8) hx hb d_X7_plain_63 (by decide) ?_
          refine lv_icmp_ne (tgt := 81) hx hb d_X7_plain_65 (by decide) (fun hc => ?_) (fun hc => ?_)
          · have hv := hv.1 hc
            refine lv_lload_n hx hb d_X7_plain_81 rfl (lv_at hl 2 rfl) ?_
            refine lv_lload hx hb d_X7_plain_82 (lv_at hl 3 rfl) ?_
            refine W.lcmp hx hb d_X7_plain_84 ?_
            refine lv_if_ge (tgt := 92) hx hb d_X7_plain_85 (by decide) (fun hc => ?_) (fun hc => ?_)
            · have hv := hv.1 ((lg_cmp_ge _ _).mp hc)
              refine lv_iconst (v := 0) hx hb d_X7_plain_92 (by decide) ?_
              exact w_X7_plain_93 hcx x1 x2 x4 0 I L Q  hv hP hD hS (lv_sub hl [1, 2, 3] rfl)
            · have hv := hv.2 (fun q => hc ((lg_cmp_ge _ _).mpr q))
              refine lv_iconst (v := 1) hx hb d_X7_plain_88 (by decide) ?_
              refine lv_goto (tgt := 93) hx hb d_X7_plain_89 (by decide) ?_
              exact w_X7_plain_93 hcx x1 x2 x4 1 I L Q  hv hP hD hS (lv_sub hl [1, 2, 3] rfl)
          · have hv := hv.2 hc
            refine lv_lload_n hx hb d_X7_plain_68 rfl (lv_at hl 2 rfl) ?_
            refine lv_lload hx hb d_X7_plain_69 (lv_at hl 3 rfl) ?_
            refine W.lcmp hx hb d_X7_plain_71 ?_
            refine lv_if_ne (tgt := 79) hx hb d_X7_plain_72 (by decide) (fun hc => ?_) (fun hc => ?_)
            · have hv := hv.1 (fun q => hc ((lg_cmp_eq _ _).mpr q))
              refine lv_lconst (v := 0) hx hb d_X7_plain_79 (by decide) ?_
              exact W.lret (v := 0) hx hb hr (fun t ht hW => ⟨⟨0, (I, L), rfl, hv, mm_mv ht hP⟩, hS.F ht⟩) hS.2.2 d_X7_plain_80
            · have hv := hv.2 ((lg_cmp_eq _ _).mp hc)
              refine lv_lconst (v := 1) hx hb d_X7_plain_75 (by decide) ?_
              refine lv_goto (tgt := 80) hx hb d_X7_plain_76 (by decide) ?_
              exact W.lret (v := 1) hx hb hr (fun t ht hW => ⟨⟨1, (I, L), rfl, hv, mm_mv ht hP⟩, hS.F ht⟩) hS.2.2 d_X7_plain_80
        · have hv := hv.2 hc
          refine lv_lload_n hx hb d_X7_plain_49 rfl (lv_at hl 2 rfl) ?_
          refine lv_lload hx hb d_X7_plain_50 (lv_at hl 3 rfl) ?_
          refine W.lcmp hx hb d_X7_plain_52 ?_
          refine lv_if_ge (tgt := 60) hx hb d_X7_plain_53 (by decide) (fun hc => ?_) (fun hc => ?_)
          · have hv := hv.1 ((lg_cmp_ge _ _).mp hc)
            refine lv_lconst (v := 0) hx hb d_X7_plain_60 (by decide) ?_
            exact W.lret (v := 0) hx hb hr (fun t ht hW => ⟨⟨0, (I, L), rfl, hv, mm_mv ht hP⟩, hS.F ht⟩) hS.2.2 d_X7_plain_61
          · have hv := hv.2 (fun q => hc ((lg_cmp_ge _ _).mpr q))
            refine lv_lconst (v := 1) hx hb d_X7_plain_56 (by decide) ?_
            refine lv_goto (tgt := 61) hx hb d_X7_plain_57 (by decide) ?_
            exact W.lret (v := 1) hx hb hr (fun t ht hW => ⟨⟨1, (I, L), rfl, hv, mm_mv ht hP⟩, hS.F ht⟩) hS.2.2 d_X7_plain_61
      · have hv := hv.2 hc
        refine lv_aload_n hx hb d_X7_plain_34 rfl (lv_at hl 0 rfl) ?_
        refine lv_lload_n hx hb d_X7_plain_35 rfl (lv_at hl 2 rfl) ?_
        refine lv_lload hx hb d_X7_plain_36 (lv_at hl 3 rfl) ?_
        refine lv_lmul hx hb d_X7_plain_38 ?_
        refine va_calll (va_runV (As := [.long (x2 * x4)]) (rest := []) ⟨hx, hb, hml, hown, hg⟩ (m_X7_ranged l G (x2 * x4) I L _  hv) (cwV 1 hg (mm_gV k_261 k_262 k_263 k_223 kc_X7_ranged) rfl rfl rfl (by decide +kernel) ⟨Nat.le_of_ble_eq_true rfl, Nat.le_of_ble_eq_true rfl⟩) ⟨mm_blind, mm_recv hK hP (t := 36) (by decide) rfl rfl, fun U hU hW => mm_call hP hK hD hC hU hS hW⟩ rfl rfl hl.1 rfl (lv_room (Nat.le_of_ble_eq_true rfl)) d_X7_plain_39 ⟨Nat.zero_le _, Nat.zero_le _⟩) hS (fun q _ h => h) (fun q h => h) (fun r652 u t H locs ht hvm hv hP hz1 hk1 hS => ?_)
        obtain ⟨I650, L651⟩ := u
        dsimp only at hv hP
        rw [ht] at hP
        have hD : mm_DW G I650 L651 := mm_D_any hD
        exact W.lret (v := r652) hx hb hr (fun t ht hW => ⟨⟨r652, (I650, L651), rfl, hv, mm_mv ht hP⟩, hS.F ht⟩) hS.2.2 d_X7_plain_42
    · have hv := hv.2 hc
      refine lv_aload_n hx hb d_X7_plain_19 rfl (lv_at hl 0 rfl) ?_
      refine lv_lload_n hx hb d_X7_plain_20 rfl (lv_at hl 2 rfl) ?_
      refine lv_lload hx hb d_X7_plain_21 (lv_at hl 3 rfl) ?_
      refine lv_lsub hx hb d_X7_plain_23 ?_
      refine va_calll (va_runV (As := [.long (x2 - x4)]) (rest := []) ⟨hx, hb, hml, hown, hg⟩ (m_X7_ranged l G (x2 - x4) I L _  hv) (cwV 1 hg (mm_gV k_261 k_262 k_263 k_223 kc_X7_ranged) rfl rfl rfl (by decide +kernel) ⟨Nat.le_of_ble_eq_true rfl, Nat.le_of_ble_eq_true rfl⟩) ⟨mm_blind, mm_recv hK hP (t := 36) (by decide) rfl rfl, fun U hU hW => mm_call hP hK hD hC hU hS hW⟩ rfl rfl hl.1 rfl (lv_room (Nat.le_of_ble_eq_true rfl)) d_X7_plain_24 ⟨Nat.zero_le _, Nat.zero_le _⟩) hS (fun q _ h => h) (fun q h => h) (fun r655 u t H locs ht hvm hv hP hz1 hk1 hS => ?_)
      obtain ⟨I653, L654⟩ := u
      dsimp only at hv hP
      rw [ht] at hP
      have hD : mm_DW G I653 L654 := mm_D_any hD
      exact W.lret (v := r655) hx hb hr (fun t ht hW => ⟨⟨r655, (I653, L654), rfl, hv, mm_mv ht hP⟩, hS.F ht⟩) hS.2.2 d_X7_plain_27
  · have hv := hv.2 hc
    refine lv_aload_n hx hb d_X7_plain_5 rfl (lv_at hl 0 rfl) ?_
    refine lv_lload_n hx hb d_X7_plain_6 rfl (lv_at hl 2 rfl) ?_
    refine lv_lload hx hb d_X7_plain_7 (lv_at hl 3 rfl) ?_
    refine lv_ladd hx hb d_X7_plain_9 ?_
    refine va_calll (va_runV (As := [.long (x2 + x4)]) (rest := []) ⟨hx, hb, hml, hown, hg⟩ (m_X7_ranged l G (x2 + x4) I L _  hv) (cwV 1 hg (mm_gV k_261 k_262 k_263 k_223 kc_X7_ranged) rfl rfl rfl (by decide +kernel) ⟨Nat.le_of_ble_eq_true rfl, Nat.le_of_ble_eq_true rfl⟩) ⟨mm_blind, mm_recv hK hP (t := 36) (by decide) rfl rfl, fun U hU hW => mm_call hP hK hD hC hU hS hW⟩ rfl rfl hl.1 rfl (lv_room (Nat.le_of_ble_eq_true rfl)) d_X7_plain_10 ⟨Nat.zero_le _, Nat.zero_le _⟩) hS (fun q _ h => h) (fun q h => h) (fun r658 u t H locs ht hvm hv hP hz1 hk1 hS => ?_)
    obtain ⟨I656, L657⟩ := u
    dsimp only at hv hP
    rw [ht] at hP
    have hD : mm_DW G I656 L657 := mm_D_any hD
    exact W.lret (v := r658) hx hb hr (fun t ht hW => ⟨⟨r658, (I656, L657), rfl, hv, mm_mv ht hP⟩, hS.F ht⟩) hS.2.2 d_X7_plain_13
abbrev vc_X7_plain (x1 : Int32) (x2 : Int64) (x4 : Int64) (I : mm_I) (L : mm_L) (Q : Int64 → mm_I → mm_L → Prop) : Prop := vc_X7_plain_0 x1 x2 x4 I L Q
set_option maxHeartbeats 4000000 in
set_option maxRecDepth 100000 in
theorem m_X7_plain (l : Launch) (G : mm_G) (x1 : Int32) (x2 : Int64) (x4 : Int64) (I : mm_I) (L : mm_L) (Q : Int64 → mm_I → mm_L → Prop)  (hv : vc_X7_plain x1 x2 x4 I L Q) : Met l y_X7_plain w_X7_plain rm_X7_plain (mm_pre G [.ref (G.2.2.1 36), .int x1, .long x2, .long x4] I L) (mm_ql G Q) 0 0 G.2.2.2.1 := by
  refine Met.ofW (cc := c_X7_plain) (maxL := 6) (ret := (some .long)) (by decide) rfl ?_
  intro p e s m args below meth c s₁ B hml hw
  obtain ⟨rfl, hP, hK, hD, hC⟩ := hw
  have hts := atoms_spec (ws := w_X7_plain) B.pre
  have hown : s.vm.findClass RX7 = some m.cls := findClass_of_methodNamed B.named
  have hl := lv_entry ([.ref (G.2.2.1 36), .int x1, .long x2, .long x4]) (n := 6) (Nat.le_of_ble_eq_true rfl)
  rw [lg_entry_eq]
  generalize (lg_sl ([.ref (G.2.2.1 36), .int x1, .long x2, .long x4]) ++ List.replicate (6 - (lg_sl ([.ref (G.2.2.1 36), .int x1, .long x2, .long x4])).length) Slot.unset).toArray = ls at hl ⊢
  have hl : lv_has ls 6 [(0, .ref (G.2.2.1 36)), (1, .int x1), (2, .long x2), (4, .long x4)] := hl
  exact w_X7_plain_0 ⟨B.exec, B.bytes, B.returns, B.notSynchronized, hml, hown, fun w h => hts w (List.mem_cons_of_mem _ h), hK, hC⟩ x1 x2 x4 I L Q  hv hP hD va_S.rf hl
abbrev rm_X7_choose : Room := { frames := 1, cells := 0, slots := 0, locals := 22 }
def vc_X7_choose_241 (x5 : Int64) (I : mm_I) (L : mm_L) (Q : Int64 → mm_I → mm_L → Prop) : Prop :=
  vc_X7_stops x5 I L (fun r676 I674 L675 => (r676 = 0 → (x5 = 0 → Q 0 I674 L675) ∧ (¬ x5 = 0 → Q 1 I674 L675)) ∧ (¬ r676 = 0 → vc_X7_stops x5 I674 L675 (fun r679 I677 L678 => Q r679 I677 L678)))
def vc_X7_choose_227 (x2 : Int32) (x3 : Int64) (x5 : Int64) (I : mm_I) (L : mm_L) (Q : Int64 → mm_I → mm_L → Prop) : Prop :=
  (¬ x2 = 14 → vc_X7_choose_241 x5 I L Q) ∧ (x2 = 14 → (x3 = 0 → vc_X7_choose_241 x5 I L Q) ∧ (¬ x3 = 0 → Q 1 I L))
def vc_X7_choose_26 (x1 : Int32) (x2 : Int32) (xs0 : Int64) (I : mm_I) (L : mm_L) (Q : Int64 → mm_I → mm_L → Prop) : Prop :=
  vp_in x1 70 ∧ vp_in (I 39 x1.toNatClampNeg) 70 ∧ (¬ x2 = 17 → (¬ x2 = 18 → vc_X7_stops xs0 I L (fun r666 I664 L665 => (r666 = 0 → (¬ x2 = 15 → (¬ x2 = 13 → vc_X7_choose_227 x2 xs0 (L 54 ((I 39 x1.toNatClampNeg)).toNatClampNeg) I664 L665 Q) ∧ (x2 = 13 → (¬ xs0 = 0 → vc_X7_choose_227 x2 xs0 (L 54 ((I 39 x1.toNatClampNeg)).toNatClampNeg) I664 L665 Q) ∧ (xs0 = 0 → Q 0 I664 L665))) ∧ (x2 = 15 → (xs0 = 0 → vp_in x1 70 ∧ vp_in (I664 40 x1.toNatClampNeg) 70 ∧ Q (L665 54 ((I664 40 x1.toNatClampNeg)).toNatClampNeg) I664 L665) ∧ (¬ xs0 = 0 → Q (L 54 ((I 39 x1.toNatClampNeg)).toNatClampNeg) I664 L665))) ∧ (¬ r666 = 0 → vc_X7_stops xs0 I664 L665 (fun r671 I669 L670 => Q r671 I669 L670)))) ∧ (x2 = 18 → (xs0 ≤ 1000000000100 → ((L 54 ((I 39 x1.toNatClampNeg)).toNatClampNeg) ≤ 1000000000100 → (¬ xs0 = 1000000000001 → (¬ (L 54 ((I 39 x1.toNatClampNeg)).toNatClampNeg) = 1000000000001 → Q 1000000000101 I L) ∧ ((L 54 ((I 39 x1.toNatClampNeg)).toNatClampNeg) = 1000000000001 → Q xs0 I L)) ∧ (xs0 = 1000000000001 → Q (L 54 ((I 39 x1.toNatClampNeg)).toNatClampNeg) I L)) ∧ (¬ (L 54 ((I 39 x1.toNatClampNeg)).toNatClampNeg) ≤ 1000000000100 → Q (L 54 ((I 39 x1.toNatClampNeg)).toNatClampNeg) I L)) ∧ (¬ xs0 ≤ 1000000000100 → Q xs0 I L))) ∧ (x2 = 17 → (xs0 = 1000000000001 → ((L 54 ((I 39 x1.toNatClampNeg)).toNatClampNeg) ≤ 1000000000100 → (¬ (L 54 ((I 39 x1.toNatClampNeg)).toNatClampNeg) = 1000000000001 → (¬ (L 54 ((I 39 x1.toNatClampNeg)).toNatClampNeg) = 0 → vp_in x1 70 ∧ vp_in (I 40 x1.toNatClampNeg) 70 ∧ Q (L 54 ((I 40 x1.toNatClampNeg)).toNatClampNeg) I L) ∧ ((L 54 ((I 39 x1.toNatClampNeg)).toNatClampNeg) = 0 → Q 1000000000001 I L)) ∧ ((L 54 ((I 39 x1.toNatClampNeg)).toNatClampNeg) = 1000000000001 → Q 1000000000102 I L)) ∧ (¬ (L 54 ((I 39 x1.toNatClampNeg)).toNatClampNeg) ≤ 1000000000100 → Q (L 54 ((I 39 x1.toNatClampNeg)).toNatClampNeg) I L)) ∧ (¬ xs0 = 1000000000001 → Q xs0 I L))
def vc_X7_choose_0 (x1 : Int32) (x2 : Int32) (I : mm_I) (L : mm_L) (Q : Int64 → mm_I → mm_L → Prop) : Prop :=
  vp_in x1 70 ∧ (0 ≤ (I 38 x1.toNatClampNeg) → vp_in x1 70 ∧ vp_in (I 38 x1.toNatClampNeg) 70 ∧ vc_X7_choose_26 x1 x2 (L 54 ((I 38 x1.toNatClampNeg)).toNatClampNeg) I L Q) ∧ (¬ 0 ≤ (I 38 x1.toNatClampNeg) → vc_X7_choose_26 x1 x2 1000000000001 I L Q)
set_option maxHeartbeats 4000000 in
set_option maxRecDepth 100000 in
theorem w_X7_choose_241 {p : Program} {l : Launch} {e : Env} {s : State} {m : MethodId} {args : Array Value} {below : List Frame} {meth : Method} {c : Code} {G : mm_G} (hcx : mm_cx c_X7_choose (some .long) 7 RX7 G p s m args meth c) (x5 : Int64) (I : mm_I) (L : mm_L) (Q : Int64 → mm_I → mm_L → Prop)  (hv : vc_X7_choose_241 x5 I L Q) {H : Heap} {locs : List Loc} (hP : mm_PW G I L H) (hD : mm_DW G I L) (hS : va_S G.2.2.2.1 s.heap H locs) {ls : Array Slot} (hl : lv_has ls 7 [(0, .ref (G.2.2.1 36)), (5, .long x5)]) : W p l e (headSpec w_X7_choose rm_X7_choose).room s m args below meth c H locs 0 0 (MQ below (mm_ql G Q) args s 0 0 G.2.2.2.1) (F0 m 241 ls []) := by
  obtain ⟨hx, hb, hr, hlocks, hml, hown, hg, hK, hC⟩ := id hcx
  unfold vc_X7_choose_241 at hv
  refine lv_aload_n hx hb d_X7_choose_241 rfl (lv_at hl 0 rfl) ?_
  refine lv_lload hx hb d_X7_choose_242 (lv_at hl 1 rfl) ?_
  refine va_calll (va_runV (As := [.long x5]) (rest := []) ⟨hx, hb, hml, hown, hg⟩ (m_X7_stops l G x5 I L _  hv) (cwV 1 hg (mm_gV k_265 k_266 k_267 k_223 kc_X7_stops) rfl rfl rfl (by decide +kernel) ⟨Nat.le_of_ble_eq_true rfl, Nat.le_of_ble_eq_true rfl⟩) ⟨mm_blind, mm_recv hK hP (t := 36) (by decide) rfl rfl, fun U hU hW => mm_call hP hK hD hC hU hS hW⟩ rfl rfl hl.1 rfl (lv_room (Nat.le_of_ble_eq_true rfl)) d_X7_choose_244 ⟨Nat.zero_le _, Nat.zero_le _⟩) hS (fun q _ h => h) (fun q h => h) (fun r676 u t H locs ht hvm hv hP hz1 hk1 hS => ?_)
  obtain ⟨I674, L675⟩ := u
  dsimp only at hv hP
  rw [ht] at hP
  have hD : mm_DW G I674 L675 := mm_D_any hD
  refine lv_lconst (v := 0) hx hb d_X7_choose_247 (by decide) ?_
  refine W.lcmp hx hb d_X7_choose_248 ?_
  refine lv_if_eq (tgt := 261) hx hb d_X7_choose_249 (by decide) (fun hc => ?_) (fun hc => ?_)
  · have hv := hv.1 ((lg_cmp_eq _ _).mp hc)
    refine lv_lload hx hb d_X7_choose_261 (lv_at hl 1 rfl) ?_
    refine lv_lconst (v := 0) hx hb d_X7_choose_263 (by decide) ?_
    refine W.lcmp hx hb d_X7_choose_264 ?_
    refine lv_if_eq (tgt := 272) hx hb d_X7_choose_265 (by decide) (fun hc => ?_) (fun hc => ?_)
    · have hv := hv.1 ((lg_cmp_eq _ _).mp hc)
      refine lv_lconst (v := 0) hx hb d_X7_choose_272 (by decide) ?_
      exact W.lret (v := 0) hx hb hr (fun t ht hW => ⟨⟨0, (I674, L675), rfl, hv, mm_mv ht hP⟩, hS.F ht⟩) hS.2.2 d_X7_choose_273
    · have hv := hv.2 (fun q => hc ((lg_cmp_eq _ _).mpr q))
      refine lv_lconst (v := 1) hx hb d_X7_choose_268 (by decide) ?_
      refine lv_goto (tgt := 273) hx hb d_X7_choose_269 (by decide) ?_
      exact W.lret (v := 1) hx hb hr (fun t ht hW => ⟨⟨1, (I674, L675), rfl, hv, mm_mv ht hP⟩, hS.F ht⟩) hS.2.2 d_X7_choose_273
  · have hv := hv.2 (fun q => hc ((lg_cmp_eq _ _).mpr q))
    refine lv_aload_n hx hb d_X7_choose_252 rfl (lv_at hl 0 rfl) ?_
    refine lv_lload hx hb d_X7_choose_253 (lv_at hl 1 rfl) ?_
    refine va_calll (va_runV (As := [.long x5]) (rest := []) ⟨hx, hb, hml, hown, hg⟩ (m_X7_stops l G x5 I674 L675 _  hv) (cwV 1 hg (mm_gV k_265 k_266 k_267 k_223 kc_X7_stops) rfl rfl rfl (by decide +kernel) ⟨Nat.le_of_ble_eq_true rfl, Nat.le_of_ble_eq_true rfl⟩) ⟨mm_blind, mm_recv hK hP (t := 36) (by decide) rfl rfl, fun U hU hW => mm_call hP hK hD hC hU hS hW⟩ rfl rfl hl.1 rfl (lv_room (Nat.le_of_ble_eq_true rfl)) d_X7_choose_255 ⟨Nat.zero_le _, Nat.zero_le _⟩) hS (fun q _ h => h) (fun q h => h) (fun r679 u t H locs ht hvm hv hP hz1 hk1 hS => ?_)
    obtain ⟨I677, L678⟩ := u
    dsimp only at hv hP
    rw [ht] at hP
    have hD : mm_DW G I677 L678 := mm_D_any hD
    refine lv_goto (tgt := 273) hx hb d_X7_choose_258 (by decide) ?_
    exact W.lret (v := r679) hx hb hr (fun t ht hW => ⟨⟨r679, (I677, L678), rfl, hv, mm_mv ht hP⟩, hS.F ht⟩) hS.2.2 d_X7_choose_273
set_option maxHeartbeats 4000000 in
set_option maxRecDepth 100000 in
theorem w_X7_choose_227 {p : Program} {l : Launch} {e : Env} {s : State} {m : MethodId} {args : Array Value} {below : List Frame} {meth : Method} {c : Code} {G : mm_G} (hcx : mm_cx c_X7_choose (some .long) 7 RX7 G p s m args meth c) (x2 : Int32) (x3 : Int64) (x5 : Int64) (I : mm_I) (L : mm_L) (Q : Int64 → mm_I → mm_L → Prop)  (hv : vc_X7_choose_227 x2 x3 x5 I L Q) {H : Heap} {locs : List Loc} (hP : mm_PW G I L H) (hD : mm_DW G I L) (hS : va_S G.2.2.2.1 s.heap H locs) {ls : Array Slot} (hl : lv_has ls 7 [(0, .ref (G.2.2.1 36)), (2, .int x2), (3, .long x3), (5, .long x5)]) : W p l e (headSpec w_X7_choose rm_X7_choose).room s m args below meth c H locs 0 0 (MQ below (mm_ql G Q) args s 0 0 G.2.2.2.1) (F0 m 227 ls []) := by
  obtain ⟨hx, hb, hr, hlocks, hml, hown, hg, hK, hC⟩ := id hcx
  unfold vc_X7_choose_227 at hv
  refine lv_iload_n hx hb d_X7_choose_227 rfl (lv_at hl 1 rfl) ?_
  refine lv_bipush (v := 14) hx hb d_X7_choose_228 (by decide) ?_
  refine lv_icmp_ne (tgt := 241) hx hb d_X7_choose_230 (by decide) (fun hc => ?_) (fun hc => ?_)
  · have hv := hv.1 hc
    exact w_X7_choose_241 hcx x5 I L Q  hv hP hD hS (lv_sub hl [0, 3] rfl)
  · have hv := hv.2 hc
    refine lv_lload_n hx hb d_X7_choose_233 rfl (lv_at hl 2 rfl) ?_
    refine lv_lconst (v := 0) hx hb d_X7_choose_234 (by decide) ?_
    refine W.lcmp hx hb d_X7_choose_235 ?_
    refine lv_if_eq (tgt := 241) hx hb d_X7_choose_236 (by decide) (fun hc => ?_) (fun hc => ?_)
    · have hv := hv.1 ((lg_cmp_eq _ _).mp hc)
      exact w_X7_choose_241 hcx x5 I L Q  hv hP hD hS (lv_sub hl [0, 3] rfl)
    · have hv := hv.2 (fun q => hc ((lg_cmp_eq _ _).mpr q))
      refine lv_lconst (v := 1) hx hb d_X7_choose_239 (by decide) ?_
      exact W.lret (v := 1) hx hb hr (fun t ht hW => ⟨⟨1, (I, L), rfl, hv, mm_mv ht hP⟩, hS.F ht⟩) hS.2.2 d_X7_choose_240
set_option maxHeartbeats 4000000 in
set_option maxRecDepth 100000 in
theorem w_X7_choose_26 {p : Program} {l : Launch} {e : Env} {s : State} {m : MethodId} {args : Array Value} {below : List Frame} {meth : Method} {c : Code} {G : mm_G} (hcx : mm_cx c_X7_choose (some .long) 7 RX7 G p s m args meth c) (x1 : Int32) (x2 : Int32) (xs0 : Int64) (I : mm_I) (L : mm_L) (Q : Int64 → mm_I → mm_L → Prop)  (hv : vc_X7_choose_26 x1 x2 xs0 I L Q) {H : Heap} {locs : List Loc} (hP : mm_PW G I L H) (hD : mm_DW G I L) (hS : va_S G.2.2.2.1 s.heap H locs) {ls : Array Slot} (hl : lv_has ls 7 [(0, .ref (G.2.2.1 36)), (1, .int x1), (2, .int x2)]) : W p l e (headSpec w_X7_choose rm_X7_choose).room s m args below meth c H locs 0 0 (MQ below (mm_ql G Q) args s 0 0 G.2.2.2.1) (F0 m 26 ls [.long xs0]) := by
  obtain ⟨hx, hb, hr, hlocks, hml, hown, hg, hK, hC⟩ := id hcx
  unfold vc_X7_choose_26 at hv
  refine lv_lstore_n (lv' := [(3, .long xs0), (0, .ref (G.2.2.1 36)), (1, .int x1), (2, .int x2)]) hx hb d_X7_choose_26 rfl hl (by decide) rfl (fun ls hl => ?_)
  refine lv_aload_n hx hb d_X7_choose_27 rfl (lv_at hl 1 rfl) ?_
  refine mm_gr (D := G.1) (C := RX7) (T := TX7) (N0 := 21) (r := 54) hx hb hg in_X7 hown hK hP (t := 36) (by decide) rfl rfl 19 (by decide) (hg _ k_264) (fun _ h9 => h9) rfl d_X7_choose_28 ?_
  refine lv_aload_n hx hb d_X7_choose_31 rfl (lv_at hl 1 rfl) ?_
  refine mm_gr (D := G.1) (C := RX7) (T := TX7) (N0 := 21) (r := 39) hx hb hg in_X7 hown hK hP (t := 36) (by decide) rfl rfl 4 (by decide) (hg _ k_240) (fun _ h9 => h9) rfl d_X7_choose_32 ?_
  refine lv_iload_n hx hb d_X7_choose_35 rfl (lv_at hl 2 rfl) ?_
  obtain ⟨h662, hv⟩ := hv
  refine mm_iald (D := G.1) hx hb hK hP (t := 39) (by decide) rfl rfl h662 d_X7_choose_36 ?_
  obtain ⟨h663, hv⟩ := hv
  refine mm_lald (D := G.1) hx hb hK hP (t := 54) (by decide) rfl rfl h663 d_X7_choose_37 ?_
  refine lv_lstore (lv' := [(5, .long (L 54 ((I 39 x1.toNatClampNeg)).toNatClampNeg)), (3, .long xs0), (0, .ref (G.2.2.1 36)), (1, .int x1), (2, .int x2)]) hx hb d_X7_choose_38 hl (by decide) rfl (fun ls hl => ?_)
  refine lv_iload_n hx hb d_X7_choose_40 rfl (lv_at hl 4 rfl) ?_
  refine lv_bipush (v := 17) hx hb d_X7_choose_41 (by decide) ?_
  refine lv_icmp_ne (tgt := 110) hx hb d_X7_choose_43 (by decide) (fun hc => ?_) (fun hc => ?_)
  · have hv := hv.1 hc
    refine lv_iload_n hx hb d_X7_choose_110 rfl (lv_at hl 4 rfl) ?_
    refine lv_bipush (v := 18) hx hb d_X7_choose_111 (by decide) ?_
    refine lv_icmp_ne (tgt := 168) hx hb d_X7_choose_113 (by decide) (fun hc => ?_) (fun hc => ?_)
    · have hv := hv.1 hc
      refine lv_aload_n hx hb d_X7_choose_168 rfl (lv_at hl 2 rfl) ?_
      refine lv_lload_n hx hb d_X7_choose_169 rfl (lv_at hl 1 rfl) ?_
      refine va_calll (va_runV (As := [.long xs0]) (rest := []) ⟨hx, hb, hml, hown, hg⟩ (m_X7_stops l G xs0 I L _  hv) (cwV 1 hg (mm_gV k_265 k_266 k_267 k_223 kc_X7_stops) rfl rfl rfl (by decide +kernel) ⟨Nat.le_of_ble_eq_true rfl, Nat.le_of_ble_eq_true rfl⟩) ⟨mm_blind, mm_recv hK hP (t := 36) (by decide) rfl rfl, fun U hU hW => mm_call hP hK hD hC hU hS hW⟩ rfl rfl hl.1 rfl (lv_room (Nat.le_of_ble_eq_true rfl)) d_X7_choose_170 ⟨Nat.zero_le _, Nat.zero_le _⟩) hS (fun q _ h => h) (fun q h => h) (fun r666 u t H locs ht hvm hv hP hz1 hk1 hS => ?_)
      obtain ⟨I664, L665⟩ := u
      dsimp only at hv hP
      rw [ht] at hP
      have hD : mm_DW G I664 L665 := mm_D_any hD
      refine lv_lconst (v := 0) hx hb d_X7_choose_173 (by decide) ?_
      refine W.lcmp hx hb d_X7_choose_174 ?_
      refine lv_if_eq (tgt := 184) hx hb d_X7_choose_175 (by decide) (fun hc => ?_) (fun hc => ?_)
      · have hv := hv.1 ((lg_cmp_eq _ _).mp hc)
        refine lv_iload_n hx hb d_X7_choose_184 rfl (lv_at hl 4 rfl) ?_
        refine lv_bipush (v := 15) hx hb d_X7_choose_185 (by decide) ?_
        refine lv_icmp_ne (tgt := 213) hx hb d_X7_choose_187 (by decide) (fun hc => ?_) (fun hc => ?_)
        · have hv := hv.1 hc
          refine lv_iload_n hx hb d_X7_choose_213 rfl (lv_at hl 4 rfl) ?_
          refine lv_bipush (v := 13) hx hb d_X7_choose_214 (by decide) ?_
          refine lv_icmp_ne (tgt := 227) hx hb d_X7_choose_216 (by decide) (fun hc => ?_) (fun hc => ?_)
          · have hv := hv.1 hc
            exact w_X7_choose_227 hcx x2 xs0 (L 54 ((I 39 x1.toNatClampNeg)).toNatClampNeg) I664 L665 Q  hv hP hD hS (lv_sub hl [2, 4, 1, 0] rfl)
          · have hv := hv.2 hc
            refine lv_lload_n hx hb d_X7_choose_219 rfl (lv_at hl 1 rfl) ?_
            refine lv_lconst (v := 0) hx hb d_X7_choose_220 (by decide) ?_
            refine W.lcmp hx hb d_X7_choose_221 ?_
            refine lv_if_ne (tgt := 227) hx hb d_X7_choose_222 (by decide) (fun hc => ?_) (fun hc => ?_)
            · have hv := hv.1 (fun q => hc ((lg_cmp_eq _ _).mpr q))
              exact w_X7_choose_227 hcx x2 xs0 (L 54 ((I 39 x1.toNatClampNeg)).toNatClampNeg) I664 L665 Q  hv hP hD hS (lv_sub hl [2, 4, 1, 0] rfl)
            · have hv := hv.2 ((lg_cmp_eq _ _).mp hc)
              refine lv_lconst (v := 0) hx hb d_X7_choose_225 (by decide) ?_
              exact W.lret (v := 0) hx hb hr (fun t ht hW => ⟨⟨0, (I664, L665), rfl, hv, mm_mv ht hP⟩, hS.F ht⟩) hS.2.2 d_X7_choose_226
        · have hv := hv.2 hc
          refine lv_lload_n hx hb d_X7_choose_190 rfl (lv_at hl 1 rfl) ?_
          refine lv_lconst (v := 0) hx hb d_X7_choose_191 (by decide) ?_
          refine W.lcmp hx hb d_X7_choose_192 ?_
          refine lv_if_eq (tgt := 201) hx hb d_X7_choose_193 (by decide) (fun hc => ?_) (fun hc => ?_)
          · have hv := hv.1 ((lg_cmp_eq _ _).mp hc)
            refine lv_aload_n hx hb d_X7_choose_201 rfl (lv_at hl 2 rfl) ?_
            refine mm_gr (D := G.1) (C := RX7) (T := TX7) (N0 := 21) (r := 54) hx hb hg in_X7 hown hK hP (t := 36) (by decide) rfl rfl 19 (by decide) (hg _ k_264) (fun _ h9 => h9) rfl d_X7_choose_202 ?_
            refine lv_aload_n hx hb d_X7_choose_205 rfl (lv_at hl 2 rfl) ?_
            refine mm_gr (D := G.1) (C := RX7) (T := TX7) (N0 := 21) (r := 40) hx hb hg in_X7 hown hK hP (t := 36) (by decide) rfl rfl 5 (by decide) (hg _ k_241) (fun _ h9 => h9) rfl d_X7_choose_206 ?_
            refine lv_iload_n hx hb d_X7_choose_209 rfl (lv_at hl 3 rfl) ?_
            obtain ⟨h667, hv⟩ := hv
            refine mm_iald (D := G.1) hx hb hK hP (t := 40) (by decide) rfl rfl h667 d_X7_choose_210 ?_
            obtain ⟨h668, hv⟩ := hv
            refine mm_lald (D := G.1) hx hb hK hP (t := 54) (by decide) rfl rfl h668 d_X7_choose_211 ?_
            exact W.lret (v := (L665 54 ((I664 40 x1.toNatClampNeg)).toNatClampNeg)) hx hb hr (fun t ht hW => ⟨⟨(L665 54 ((I664 40 x1.toNatClampNeg)).toNatClampNeg), (I664, L665), rfl, hv, mm_mv ht hP⟩, hS.F ht⟩) hS.2.2 d_X7_choose_212
          · have hv := hv.2 (fun q => hc ((lg_cmp_eq _ _).mpr q))
            refine lv_lload hx hb d_X7_choose_196 (lv_at hl 0 rfl) ?_
            refine lv_goto (tgt := 212) hx hb d_X7_choose_198 (by decide) ?_
            exact W.lret (v := (L 54 ((I 39 x1.toNatClampNeg)).toNatClampNeg)) hx hb hr (fun t ht hW => ⟨⟨(L 54 ((I 39 x1.toNatClampNeg)).toNatClampNeg), (I664, L665), rfl, hv, mm_mv ht hP⟩, hS.F ht⟩) hS.2.2 d_X7_choose_212
      · have hv := hv.2 (fun q => hc ((lg_cmp_eq _ _).mpr q))
        refine lv_aload_n hx hb d_X7_choose_178 rfl (lv_at hl 2 rfl) ?_
        refine lv_lload_n hx hb d_X7_choose_179 rfl (lv_at hl 1 rfl) ?_
        refine va_calll (va_runV (As := [.long xs0]) (rest := []) ⟨hx, hb, hml, hown, hg⟩ (m_X7_stops l G xs0 I664 L665 _  hv) (cwV 1 hg (mm_gV k_265 k_266 k_267 k_223 kc_X7_stops) rfl rfl rfl (by decide +kernel) ⟨Nat.le_of_ble_eq_true rfl, Nat.le_of_ble_eq_true rfl⟩) ⟨mm_blind, mm_recv hK hP (t := 36) (by decide) rfl rfl, fun U hU hW => mm_call hP hK hD hC hU hS hW⟩ rfl rfl hl.1 rfl (lv_room (Nat.le_of_ble_eq_true rfl)) d_X7_choose_180 ⟨Nat.zero_le _, Nat.zero_le _⟩) hS (fun q _ h => h) (fun q h => h) (fun r671 u t H locs ht hvm hv hP hz1 hk1 hS => ?_)
        obtain ⟨I669, L670⟩ := u
        dsimp only at hv hP
        rw [ht] at hP
        have hD : mm_DW G I669 L670 := mm_D_any hD
        exact W.lret (v := r671) hx hb hr (fun t ht hW => ⟨⟨r671, (I669, L670), rfl, hv, mm_mv ht hP⟩, hS.F ht⟩) hS.2.2 d_X7_choose_183
    · have hv := hv.2 hc
      refine lv_lload_n hx hb d_X7_choose_116 rfl (lv_at hl 1 rfl) ?_
      refine lv_ldc2 (v := 1000000000100) hx hb hown (hg _ k_255) d_X7_choose_117 ?_
      refine W.lcmp hx hb d_X7_choose_120 ?_
      refine lv_if_le (tgt := 126) hx hb d_X7_choose_121 (by decide) (fun hc => ?_) (fun hc => ?_)
      · have hv := hv.1 ((lg_cmp_le _ _).mp hc)
        refine lv_lload hx hb d_X7_choose_126 (lv_at hl 0 rfl) ?_
        refine lv_ldc2 (v := 1000000000100) hx hb hown (hg _ k_255) d_X7_choose_128 ?_
        refine W.lcmp hx hb d_X7_choose_131 ?_
        refine lv_if_le (tgt := 138) hx hb d_X7_choose_132 (by decide) (fun hc => ?_) (fun hc => ?_)
        · have hv := hv.1 ((lg_cmp_le _ _).mp hc)
          refine lv_lload_n hx hb d_X7_choose_138 rfl (lv_at hl 1 rfl) ?_
          refine lv_ldc2 (v := 1000000000001) hx hb hown (hg _ k_254) d_X7_choose_139 ?_
          refine W.lcmp hx hb d_X7_choose_142 ?_
          refine lv_if_ne (tgt := 151) hx hb d_X7_choose_143 (by decide) (fun hc => ?_) (fun hc => ?_)
          · have hv := hv.1 (fun q => hc ((lg_cmp_eq _ _).mpr q))
            refine lv_lload hx hb d_X7_choose_151 (lv_at hl 0 rfl) ?_
            refine lv_ldc2 (v := 1000000000001) hx hb hown (hg _ k_254) d_X7_choose_153 ?_
            refine W.lcmp hx hb d_X7_choose_156 ?_
            refine lv_if_ne (tgt := 164) hx hb d_X7_choose_157 (by decide) (fun hc => ?_) (fun hc => ?_)
            · have hv := hv.1 (fun q => hc ((lg_cmp_eq _ _).mpr q))
              refine lv_ldc2 (v := 1000000000101) hx hb hown (hg _ k_268) d_X7_choose_164 ?_
              exact W.lret (v := 1000000000101) hx hb hr (fun t ht hW => ⟨⟨1000000000101, (I, L), rfl, hv, mm_mv ht hP⟩, hS.F ht⟩) hS.2.2 d_X7_choose_167
            · have hv := hv.2 ((lg_cmp_eq _ _).mp hc)
              refine lv_lload_n hx hb d_X7_choose_160 rfl (lv_at hl 1 rfl) ?_
              refine lv_goto (tgt := 167) hx hb d_X7_choose_161 (by decide) ?_
              exact W.lret (v := xs0) hx hb hr (fun t ht hW => ⟨⟨xs0, (I, L), rfl, hv, mm_mv ht hP⟩, hS.F ht⟩) hS.2.2 d_X7_choose_167
          · have hv := hv.2 ((lg_cmp_eq _ _).mp hc)
            refine lv_lload hx hb d_X7_choose_146 (lv_at hl 0 rfl) ?_
            refine lv_goto (tgt := 167) hx hb d_X7_choose_148 (by decide) ?_
            exact W.lret (v := (L 54 ((I 39 x1.toNatClampNeg)).toNatClampNeg)) hx hb hr (fun t ht hW => ⟨⟨(L 54 ((I 39 x1.toNatClampNeg)).toNatClampNeg), (I, L), rfl, hv, mm_mv ht hP⟩, hS.F ht⟩) hS.2.2 d_X7_choose_167
        · have hv := hv.2 (fun q => hc ((lg_cmp_le _ _).mpr q))
          refine lv_lload hx hb d_X7_choose_135 (lv_at hl 0 rfl) ?_
          exact W.lret (v := (L 54 ((I 39 x1.toNatClampNeg)).toNatClampNeg)) hx hb hr (fun t ht hW => ⟨⟨(L 54 ((I 39 x1.toNatClampNeg)).toNatClampNeg), (I, L), rfl, hv, mm_mv ht hP⟩, hS.F ht⟩) hS.2.2 d_X7_choose_137
      · have hv := hv.2 (fun q => hc ((lg_cmp_le _ _).mpr q))
        refine lv_lload_n hx hb d_X7_choose_124 rfl (lv_at hl 1 rfl) ?_
        exact W.lret (v := xs0) hx hb hr (fun t ht hW => ⟨⟨xs0, (I, L), rfl, hv, mm_mv ht hP⟩, hS.F ht⟩) hS.2.2 d_X7_choose_125
  · have hv := hv.2 hc
    refine lv_lload_n hx hb d_X7_choose_46 rfl (lv_at hl 1 rfl) ?_
    refine lv_ldc2 (v := 1000000000001) hx hb hown (hg _ k_254) d_X7_choose_47 ?_
    refine W.lcmp hx hb d_X7_choose_50 ?_
    refine lv_if_eq (tgt := 56) hx hb d_X7_choose_51 (by decide) (fun hc => ?_) (fun hc => ?_)
    · have hv := hv.1 ((lg_cmp_eq _ _).mp hc)
      refine lv_lload hx hb d_X7_choose_56 (lv_at hl 0 rfl) ?_
      refine lv_ldc2 (v := 1000000000100) hx hb hown (hg _ k_255) d_X7_choose_58 ?_
      refine W.lcmp hx hb d_X7_choose_61 ?_
      refine lv_if_le (tgt := 70) hx hb d_X7_choose_62 (by decide) (fun hc => ?_) (fun hc => ?_)
      · have hv := hv.1 ((lg_cmp_le _ _).mp hc)
        refine lv_lload hx hb d_X7_choose_70 (lv_at hl 0 rfl) ?_
        refine lv_ldc2 (v := 1000000000001) hx hb hown (hg _ k_254) d_X7_choose_72 ?_
        refine W.lcmp hx hb d_X7_choose_75 ?_
        refine lv_if_ne (tgt := 85) hx hb d_X7_choose_76 (by decide) (fun hc => ?_) (fun hc => ?_)
        · have hv := hv.1 (fun q => hc ((lg_cmp_eq _ _).mpr q))
          refine lv_lload hx hb d_X7_choose_85 (lv_at hl 0 rfl) ?_
          refine lv_lconst (v := 0) hx hb d_X7_choose_87 (by decide) ?_
          refine W.lcmp hx hb d_X7_choose_88 ?_
          refine lv_if_ne (tgt := 98) hx hb d_X7_choose_89 (by decide) (fun hc => ?_) (fun hc => ?_)
          · have hv := hv.1 (fun q => hc ((lg_cmp_eq _ _).mpr q))
            refine lv_aload_n hx hb d_X7_choose_98 rfl (lv_at hl 2 rfl) ?_
            refine mm_gr (D := G.1) (C := RX7) (T := TX7) (N0 := 21) (r := 54) hx hb hg in_X7 hown hK hP (t := 36) (by decide) rfl rfl 19 (by decide) (hg _ k_264) (fun _ h9 => h9) rfl d_X7_choose_99 ?_
            refine lv_aload_n hx hb d_X7_choose_102 rfl (lv_at hl 2 rfl) ?_
            refine mm_gr (D := G.1) (C := RX7) (T := TX7) (N0 := 21) (r := 40) hx hb hg in_X7 hown hK hP (t := 36) (by decide) rfl rfl 5 (by decide) (hg _ k_241) (fun _ h9 => h9) rfl d_X7_choose_103 ?_
            refine lv_iload_n hx hb d_X7_choose_106 rfl (lv_at hl 3 rfl) ?_
            obtain ⟨h672, hv⟩ := hv
            refine mm_iald (D := G.1) hx hb hK hP (t := 40) (by decide) rfl rfl h672 d_X7_choose_107 ?_
            obtain ⟨h673, hv⟩ := hv
            refine mm_lald (D := G.1) hx hb hK hP (t := 54) (by decide) rfl rfl h673 d_X7_choose_108 ?_
            exact W.lret (v := (L 54 ((I 40 x1.toNatClampNeg)).toNatClampNeg)) hx hb hr (fun t ht hW => ⟨⟨(L 54 ((I 40 x1.toNatClampNeg)).toNatClampNeg), (I, L), rfl, hv, mm_mv ht hP⟩, hS.F ht⟩) hS.2.2 d_X7_choose_109
          · have hv := hv.2 ((lg_cmp_eq _ _).mp hc)
            refine lv_ldc2 (v := 1000000000001) hx hb hown (hg _ k_254) d_X7_choose_92 ?_
            refine lv_goto (tgt := 109) hx hb d_X7_choose_95 (by decide) ?_
            exact W.lret (v := 1000000000001) hx hb hr (fun t ht hW => ⟨⟨1000000000001, (I, L), rfl, hv, mm_mv ht hP⟩, hS.F ht⟩) hS.2.2 d_X7_choose_109
        · have hv := hv.2 ((lg_cmp_eq _ _).mp hc)
          refine lv_ldc2 (v := 1000000000102) hx hb hown (hg _ k_256) d_X7_choose_79 ?_
          refine lv_goto (tgt := 109) hx hb d_X7_choose_82 (by decide) ?_
          exact W.lret (v := 1000000000102) hx hb hr (fun t ht hW => ⟨⟨1000000000102, (I, L), rfl, hv, mm_mv ht hP⟩, hS.F ht⟩) hS.2.2 d_X7_choose_109
      · have hv := hv.2 (fun q => hc ((lg_cmp_le _ _).mpr q))
        refine lv_lload hx hb d_X7_choose_65 (lv_at hl 0 rfl) ?_
        refine lv_goto (tgt := 109) hx hb d_X7_choose_67 (by decide) ?_
        exact W.lret (v := (L 54 ((I 39 x1.toNatClampNeg)).toNatClampNeg)) hx hb hr (fun t ht hW => ⟨⟨(L 54 ((I 39 x1.toNatClampNeg)).toNatClampNeg), (I, L), rfl, hv, mm_mv ht hP⟩, hS.F ht⟩) hS.2.2 d_X7_choose_109
    · have hv := hv.2 (fun q => hc ((lg_cmp_eq _ _).mpr q))
      refine lv_lload_n hx hb d_X7_choose_54 rfl (lv_at hl 1 rfl) ?_
      exact W.lret (v := xs0) hx hb hr (fun t ht hW => ⟨⟨xs0, (I, L), rfl, hv, mm_mv ht hP⟩, hS.F ht⟩) hS.2.2 d_X7_choose_55
set_option maxHeartbeats 4000000 in
set_option maxRecDepth 100000 in
theorem w_X7_choose_0 {p : Program} {l : Launch} {e : Env} {s : State} {m : MethodId} {args : Array Value} {below : List Frame} {meth : Method} {c : Code} {G : mm_G} (hcx : mm_cx c_X7_choose (some .long) 7 RX7 G p s m args meth c) (x1 : Int32) (x2 : Int32) (I : mm_I) (L : mm_L) (Q : Int64 → mm_I → mm_L → Prop)  (hv : vc_X7_choose_0 x1 x2 I L Q) {H : Heap} {locs : List Loc} (hP : mm_PW G I L H) (hD : mm_DW G I L) (hS : va_S G.2.2.2.1 s.heap H locs) {ls : Array Slot} (hl : lv_has ls 7 [(0, .ref (G.2.2.1 36)), (1, .int x1), (2, .int x2)]) : W p l e (headSpec w_X7_choose rm_X7_choose).room s m args below meth c H locs 0 0 (MQ below (mm_ql G Q) args s 0 0 G.2.2.2.1) (F0 m 0 ls []) := by
  obtain ⟨hx, hb, hr, hlocks, hml, hown, hg, hK, hC⟩ := id hcx
  unfold vc_X7_choose_0 at hv
  refine lv_aload_n hx hb d_X7_choose_0 rfl (lv_at hl 0 rfl) ?_
  refine mm_gr (D := G.1) (C := RX7) (T := TX7) (N0 := 21) (r := 38) hx hb hg in_X7 hown hK hP (t := 36) (by decide) rfl rfl 3 (by decide) (hg _ k_239) (fun _ h9 => h9) rfl d_X7_choose_1 ?_
  refine lv_iload_n hx hb d_X7_choose_4 rfl (lv_at hl 1 rfl) ?_
  obtain ⟨h659, hv⟩ := hv
  refine mm_iald (D := G.1) hx hb hK hP (t := 38) (by decide) rfl rfl h659 d_X7_choose_5 ?_
  refine lv_if_ge (tgt := 15) hx hb d_X7_choose_6 (by decide) (fun hc => ?_) (fun hc => ?_)
  · have hv := hv.1 hc
    refine lv_aload_n hx hb d_X7_choose_15 rfl (lv_at hl 0 rfl) ?_
    refine mm_gr (D := G.1) (C := RX7) (T := TX7) (N0 := 21) (r := 54) hx hb hg in_X7 hown hK hP (t := 36) (by decide) rfl rfl 19 (by decide) (hg _ k_264) (fun _ h9 => h9) rfl d_X7_choose_16 ?_
    refine lv_aload_n hx hb d_X7_choose_19 rfl (lv_at hl 0 rfl) ?_
    refine mm_gr (D := G.1) (C := RX7) (T := TX7) (N0 := 21) (r := 38) hx hb hg in_X7 hown hK hP (t := 36) (by decide) rfl rfl 3 (by decide) (hg _ k_239) (fun _ h9 => h9) rfl d_X7_choose_20 ?_
    refine lv_iload_n hx hb d_X7_choose_23 rfl (lv_at hl 1 rfl) ?_
    obtain ⟨h660, hv⟩ := hv
    refine mm_iald (D := G.1) hx hb hK hP (t := 38) (by decide) rfl rfl h660 d_X7_choose_24 ?_
    obtain ⟨h661, hv⟩ := hv
    refine mm_lald (D := G.1) hx hb hK hP (t := 54) (by decide) rfl rfl h661 d_X7_choose_25 ?_
    exact w_X7_choose_26 hcx x1 x2 (L 54 ((I 38 x1.toNatClampNeg)).toNatClampNeg) I L Q  hv hP hD hS (lv_sub hl [0, 1, 2] rfl)
  · have hv := hv.2 hc
    refine lv_ldc2 (v := 1000000000001) hx hb hown (hg _ k_254) d_X7_choose_9 ?_
    refine lv_goto (tgt := 26) hx hb d_X7_choose_12 (by decide) ?_
    exact w_X7_choose_26 hcx x1 x2 1000000000001 I L Q  hv hP hD hS (lv_sub hl [0, 1, 2] rfl)
abbrev vc_X7_choose (x1 : Int32) (x2 : Int32) (I : mm_I) (L : mm_L) (Q : Int64 → mm_I → mm_L → Prop) : Prop := vc_X7_choose_0 x1 x2 I L Q
set_option maxHeartbeats 4000000 in
set_option maxRecDepth 100000 in
theorem m_X7_choose (l : Launch) (G : mm_G) (x1 : Int32) (x2 : Int32) (I : mm_I) (L : mm_L) (Q : Int64 → mm_I → mm_L → Prop)  (hv : vc_X7_choose x1 x2 I L Q) : Met l y_X7_choose w_X7_choose rm_X7_choose (mm_pre G [.ref (G.2.2.1 36), .int x1, .int x2] I L) (mm_ql G Q) 0 0 G.2.2.2.1 := by
  refine Met.ofW (cc := c_X7_choose) (maxL := 7) (ret := (some .long)) (by decide) rfl ?_
  intro p e s m args below meth c s₁ B hml hw
  obtain ⟨rfl, hP, hK, hD, hC⟩ := hw
  have hts := atoms_spec (ws := w_X7_choose) B.pre
  have hown : s.vm.findClass RX7 = some m.cls := findClass_of_methodNamed B.named
  have hl := lv_entry ([.ref (G.2.2.1 36), .int x1, .int x2]) (n := 7) (Nat.le_of_ble_eq_true rfl)
  rw [lg_entry_eq]
  generalize (lg_sl ([.ref (G.2.2.1 36), .int x1, .int x2]) ++ List.replicate (7 - (lg_sl ([.ref (G.2.2.1 36), .int x1, .int x2])).length) Slot.unset).toArray = ls at hl ⊢
  have hl : lv_has ls 7 [(0, .ref (G.2.2.1 36)), (1, .int x1), (2, .int x2)] := hl
  exact w_X7_choose_0 ⟨B.exec, B.bytes, B.returns, B.notSynchronized, hml, hown, fun w h => hts w (List.mem_cons_of_mem _ h), hK, hC⟩ x1 x2 I L Q  hv hP hD va_S.rf hl
abbrev rm_X7_workOut : Room := { frames := 3, cells := 0, slots := 0, locals := 69 }
def vc_X7_workOut_112 (x2 : Int32) (x3 : Int32) (I : mm_I) (L : mm_L) (Q : Int64 → mm_I → mm_L → Prop) : Prop :=
  vc_X7_choose x2 x3 I L (fun r705 I703 L704 => Q r705 I703 L704)
def vc_X7_workOut_234 (x3 : Int32) (x5 : Int64) (x7 : Int64) (xs0 : Int64) (I : mm_I) (L : mm_L) (Q : Int64 → mm_I → mm_L → Prop) : Prop :=
  vc_X7_stops x5 I L (fun r710 I708 L709 => (r710 = 0 → vc_X7_stops x7 I708 L709 (fun r713 I711 L712 => (r713 = 0 → vc_X7_stops xs0 I711 L712 (fun r716 I714 L715 => (r716 = 0 → (¬ x3 = 12 → (¬ x3 = 11 → vc_X7_plain x3 x5 x7 I714 L715 (fun r719 I717 L718 => Q r719 I717 L718)) ∧ (x3 = 11 → (¬ xs0 = 0 → vc_X7_rounded (x5 * x7) xs0 I714 L715 (fun r722 I720 L721 => vc_X7_ranged r722 I720 L721 (fun r725 I723 L724 => Q r725 I723 L724))) ∧ (xs0 = 0 → Q 1000000000103 I714 L715))) ∧ (x3 = 12 → (¬ x5 = 0 → Q 0 I714 L715) ∧ (x5 = 0 → Q 1 I714 L715))) ∧ (¬ r716 = 0 → vc_X7_stops xs0 I714 L715 (fun r728 I726 L727 => Q r728 I726 L727)))) ∧ (¬ r713 = 0 → vc_X7_stops x7 I711 L712 (fun r731 I729 L730 => Q r731 I729 L730)))) ∧ (¬ r710 = 0 → vc_X7_stops x5 I708 L709 (fun r734 I732 L733 => Q r734 I732 L733)))
def vc_X7_workOut_211 (x2 : Int32) (x3 : Int32) (x5 : Int64) (xs0 : Int64) (I : mm_I) (L : mm_L) (Q : Int64 → mm_I → mm_L → Prop) : Prop :=
  (¬ x3 = 11 → vc_X7_workOut_234 x3 x5 xs0 1 I L Q) ∧ (x3 = 11 → vp_in x2 70 ∧ vp_in (I 40 x2.toNatClampNeg) 70 ∧ vc_X7_workOut_234 x3 x5 xs0 (L 54 ((I 40 x2.toNatClampNeg)).toNatClampNeg) I L Q)
def vc_X7_workOut_0 (x1 : Int32) (x2 : Int32) (I : mm_I) (L : mm_L) (Q : Int64 → mm_I → mm_L → Prop) : Prop :=
  vp_in x2 70 ∧ vp_in x2 70 ∧ (¬ (I 37 x2.toNatClampNeg) = 0 → (¬ (I 37 x2.toNatClampNeg) = 1 → (¬ (I 37 x2.toNatClampNeg) = 2 → (¬ (I 37 x2.toNatClampNeg) = 3 → (¬ (I 37 x2.toNatClampNeg) = 16 → ((I 37 x2.toNatClampNeg) = 13 → vc_X7_workOut_112 x2 (I 37 x2.toNatClampNeg) I L Q) ∧ (¬ (I 37 x2.toNatClampNeg) = 13 → ((I 37 x2.toNatClampNeg) = 14 → vc_X7_workOut_112 x2 (I 37 x2.toNatClampNeg) I L Q) ∧ (¬ (I 37 x2.toNatClampNeg) = 14 → ((I 37 x2.toNatClampNeg) = 15 → vc_X7_workOut_112 x2 (I 37 x2.toNatClampNeg) I L Q) ∧ (¬ (I 37 x2.toNatClampNeg) = 15 → ((I 37 x2.toNatClampNeg) = 17 → vc_X7_workOut_112 x2 (I 37 x2.toNatClampNeg) I L Q) ∧ (¬ (I 37 x2.toNatClampNeg) = 17 → (¬ (I 37 x2.toNatClampNeg) = 18 → (¬ (I 37 x2.toNatClampNeg) = 19 → vp_in (I 38 x2.toNatClampNeg) 70 ∧ (¬ (I 37 x2.toNatClampNeg) = 12 → vp_in x2 70 ∧ vp_in (I 39 x2.toNatClampNeg) 70 ∧ vc_X7_workOut_211 x2 (I 37 x2.toNatClampNeg) (L 54 ((I 38 x2.toNatClampNeg)).toNatClampNeg) (L 54 ((I 39 x2.toNatClampNeg)).toNatClampNeg) I L Q) ∧ ((I 37 x2.toNatClampNeg) = 12 → vc_X7_workOut_211 x2 (I 37 x2.toNatClampNeg) (L 54 ((I 38 x2.toNatClampNeg)).toNatClampNeg) 0 I L Q)) ∧ ((I 37 x2.toNatClampNeg) = 19 → vp_in x2 70 ∧ vp_in (I 39 x2.toNatClampNeg) 70 ∧ vc_X7_stops (L 54 ((I 39 x2.toNatClampNeg)).toNatClampNeg) I L (fun r689 I687 L688 => (r689 = 0 → vp_in x2 70 ∧ vp_in (I687 39 x2.toNatClampNeg) 70 ∧ vc_X7_scale (I 38 x2.toNatClampNeg) (L688 54 ((I687 39 x2.toNatClampNeg)).toNatClampNeg) I687 L688 (fun r694 I692 L693 => Q r694 I692 L693)) ∧ (¬ r689 = 0 → vp_in x2 70 ∧ vp_in (I687 39 x2.toNatClampNeg) 70 ∧ vc_X7_stops (L688 54 ((I687 39 x2.toNatClampNeg)).toNatClampNeg) I687 L688 (fun r699 I697 L698 => Q r699 I697 L698))))) ∧ ((I 37 x2.toNatClampNeg) = 18 → vc_X7_workOut_112 x2 (I 37 x2.toNatClampNeg) I L Q)))))) ∧ ((I 37 x2.toNatClampNeg) = 16 → Q 1000000000001 I L)) ∧ ((I 37 x2.toNatClampNeg) = 3 → vp_in ((x1 * 2) + (I 38 x2.toNatClampNeg)) 12 ∧ Q (L 53 (((x1 * 2) + (I 38 x2.toNatClampNeg))).toNatClampNeg) I L)) ∧ ((I 37 x2.toNatClampNeg) = 2 → vp_in (I 38 x2.toNatClampNeg) 8 ∧ Q (L 55 ((I 38 x2.toNatClampNeg)).toNatClampNeg) I L)) ∧ ((I 37 x2.toNatClampNeg) = 1 → vp_in ((x1 * 8) + (I 38 x2.toNatClampNeg)) 48 ∧ Q ((I 47 (((x1 * 8) + (I 38 x2.toNatClampNeg))).toNatClampNeg)).toInt64 I L)) ∧ ((I 37 x2.toNatClampNeg) = 0 → Q ((I 38 x2.toNatClampNeg)).toInt64 I L)
set_option maxHeartbeats 4000000 in
set_option maxRecDepth 100000 in
theorem w_X7_workOut_112 {p : Program} {l : Launch} {e : Env} {s : State} {m : MethodId} {args : Array Value} {below : List Frame} {meth : Method} {c : Code} {G : mm_G} (hcx : mm_cx c_X7_workOut (some .long) 11 RX7 G p s m args meth c) (x2 : Int32) (x3 : Int32) (I : mm_I) (L : mm_L) (Q : Int64 → mm_I → mm_L → Prop)  (hv : vc_X7_workOut_112 x2 x3 I L Q) {H : Heap} {locs : List Loc} (hP : mm_PW G I L H) (hD : mm_DW G I L) (hS : va_S G.2.2.2.1 s.heap H locs) {ls : Array Slot} (hl : lv_has ls 11 [(0, .ref (G.2.2.1 36)), (2, .int x2), (3, .int x3)]) : W p l e (headSpec w_X7_workOut rm_X7_workOut).room s m args below meth c H locs 0 0 (MQ below (mm_ql G Q) args s 0 0 G.2.2.2.1) (F0 m 112 ls []) := by
  obtain ⟨hx, hb, hr, hlocks, hml, hown, hg, hK, hC⟩ := id hcx
  unfold vc_X7_workOut_112 at hv
  refine lv_aload_n hx hb d_X7_workOut_112 rfl (lv_at hl 0 rfl) ?_
  refine lv_iload_n hx hb d_X7_workOut_113 rfl (lv_at hl 1 rfl) ?_
  refine lv_iload_n hx hb d_X7_workOut_114 rfl (lv_at hl 2 rfl) ?_
  refine va_calll (va_runV (As := [.int x2, .int x3]) (rest := []) ⟨hx, hb, hml, hown, hg⟩ (m_X7_choose l G x2 x3 I L _  hv) (cwV 2 hg (mm_gV k_274 k_275 k_276 k_223 kc_X7_choose) rfl rfl rfl (by decide +kernel) ⟨Nat.le_of_ble_eq_true rfl, Nat.le_of_ble_eq_true rfl⟩) ⟨mm_blind, mm_recv hK hP (t := 36) (by decide) rfl rfl, fun U hU hW => mm_call hP hK hD hC hU hS hW⟩ rfl rfl hl.1 rfl (lv_room (Nat.le_of_ble_eq_true rfl)) d_X7_workOut_115 ⟨Nat.zero_le _, Nat.zero_le _⟩) hS (fun q _ h => h) (fun q h => h) (fun r705 u t H locs ht hvm hv hP hz1 hk1 hS => ?_)
  obtain ⟨I703, L704⟩ := u
  dsimp only at hv hP
  rw [ht] at hP
  have hD : mm_DW G I703 L704 := mm_D_any hD
  exact W.lret (v := r705) hx hb hr (fun t ht hW => ⟨⟨r705, (I703, L704), rfl, hv, mm_mv ht hP⟩, hS.F ht⟩) hS.2.2 d_X7_workOut_118
set_option maxHeartbeats 4000000 in
set_option maxRecDepth 100000 in
theorem w_X7_workOut_234 {p : Program} {l : Launch} {e : Env} {s : State} {m : MethodId} {args : Array Value} {below : List Frame} {meth : Method} {c : Code} {G : mm_G} (hcx : mm_cx c_X7_workOut (some .long) 11 RX7 G p s m args meth c) (x3 : Int32) (x5 : Int64) (x7 : Int64) (xs0 : Int64) (I : mm_I) (L : mm_L) (Q : Int64 → mm_I → mm_L → Prop)  (hv : vc_X7_workOut_234 x3 x5 x7 xs0 I L Q) {H : Heap} {locs : List Loc} (hP : mm_PW G I L H) (hD : mm_DW G I L) (hS : va_S G.2.2.2.1 s.heap H locs) {ls : Array Slot} (hl : lv_has ls 11 [(0, .ref (G.2.2.1 36)), (3, .int x3), (5, .long x5), (7, .long x7)]) : W p l e (headSpec w_X7_workOut rm_X7_workOut).room s m args below meth c H locs 0 0 (MQ below (mm_ql G Q) args s 0 0 G.2.2.2.1) (F0 m 234 ls [.long xs0]) := by
  obtain ⟨hx, hb, hr, hlocks, hml, hown, hg, hK, hC⟩ := id hcx
  unfold vc_X7_workOut_234 at hv
  refine lv_lstore (lv' := [(9, .long xs0), (0, .ref (G.2.2.1 36)), (3, .int x3), (5, .long x5), (7, .long x7)]) hx hb d_X7_workOut_234 hl (by decide) rfl (fun ls hl => ?_)
  refine lv_aload_n hx hb d_X7_workOut_236 rfl (lv_at hl 1 rfl) ?_
  refine lv_lload hx hb d_X7_workOut_237 (lv_at hl 3 rfl) ?_
  refine va_calll (va_runV (As := [.long x5]) (rest := []) ⟨hx, hb, hml, hown, hg⟩ (m_X7_stops l G x5 I L _  hv) (cwV 1 hg (mm_gV k_265 k_266 k_267 k_223 kc_X7_stops) rfl rfl rfl (by decide +kernel) ⟨Nat.le_of_ble_eq_true rfl, Nat.le_of_ble_eq_true rfl⟩) ⟨mm_blind, mm_recv hK hP (t := 36) (by decide) rfl rfl, fun U hU hW => mm_call hP hK hD hC hU hS hW⟩ rfl rfl hl.1 rfl (lv_room (Nat.le_of_ble_eq_true rfl)) d_X7_workOut_239 ⟨Nat.zero_le _, Nat.zero_le _⟩) hS (fun q _ h => h) (fun q h => h) (fun r710 u t H locs ht hvm hv hP hz1 hk1 hS => ?_)
  obtain ⟨I708, L709⟩ := u
  dsimp only at hv hP
  rw [ht] at hP
  have hD : mm_DW G I708 L709 := mm_D_any hD
  refine lv_lconst (v := 0) hx hb d_X7_workOut_242 (by decide) ?_
  refine W.lcmp hx hb d_X7_workOut_243 ?_
  refine lv_if_eq (tgt := 254) hx hb d_X7_workOut_244 (by decide) (fun hc => ?_) (fun hc => ?_)
  · have hv := hv.1 ((lg_cmp_eq _ _).mp hc)
    refine lv_aload_n hx hb d_X7_workOut_254 rfl (lv_at hl 1 rfl) ?_
    refine lv_lload hx hb d_X7_workOut_255 (lv_at hl 4 rfl) ?_
    refine va_calll (va_runV (As := [.long x7]) (rest := []) ⟨hx, hb, hml, hown, hg⟩ (m_X7_stops l G x7 I708 L709 _  hv) (cwV 1 hg (mm_gV k_265 k_266 k_267 k_223 kc_X7_stops) rfl rfl rfl (by decide +kernel) ⟨Nat.le_of_ble_eq_true rfl, Nat.le_of_ble_eq_true rfl⟩) ⟨mm_blind, mm_recv hK hP (t := 36) (by decide) rfl rfl, fun U hU hW => mm_call hP hK hD hC hU hS hW⟩ rfl rfl hl.1 rfl (lv_room (Nat.le_of_ble_eq_true rfl)) d_X7_workOut_257 ⟨Nat.zero_le _, Nat.zero_le _⟩) hS (fun q _ h => h) (fun q h => h) (fun r713 u t H locs ht hvm hv hP hz1 hk1 hS => ?_)
    obtain ⟨I711, L712⟩ := u
    dsimp only at hv hP
    rw [ht] at hP
    have hD : mm_DW G I711 L712 := mm_D_any hD
    refine lv_lconst (v := 0) hx hb d_X7_workOut_260 (by decide) ?_
    refine W.lcmp hx hb d_X7_workOut_261 ?_
    refine lv_if_eq (tgt := 272) hx hb d_X7_workOut_262 (by decide) (fun hc => ?_) (fun hc => ?_)
    · have hv := hv.1 ((lg_cmp_eq _ _).mp hc)
      refine lv_aload_n hx hb d_X7_workOut_272 rfl (lv_at hl 1 rfl) ?_
      refine lv_lload hx hb d_X7_workOut_273 (lv_at hl 0 rfl) ?_
      refine va_calll (va_runV (As := [.long xs0]) (rest := []) ⟨hx, hb, hml, hown, hg⟩ (m_X7_stops l G xs0 I711 L712 _  hv) (cwV 1 hg (mm_gV k_265 k_266 k_267 k_223 kc_X7_stops) rfl rfl rfl (by decide +kernel) ⟨Nat.le_of_ble_eq_true rfl, Nat.le_of_ble_eq_true rfl⟩) ⟨mm_blind, mm_recv hK hP (t := 36) (by decide) rfl rfl, fun U hU hW => mm_call hP hK hD hC hU hS hW⟩ rfl rfl hl.1 rfl (lv_room (Nat.le_of_ble_eq_true rfl)) d_X7_workOut_275 ⟨Nat.zero_le _, Nat.zero_le _⟩) hS (fun q _ h => h) (fun q h => h) (fun r716 u t H locs ht hvm hv hP hz1 hk1 hS => ?_)
      obtain ⟨I714, L715⟩ := u
      dsimp only at hv hP
      rw [ht] at hP
      have hD : mm_DW G I714 L715 := mm_D_any hD
      refine lv_lconst (v := 0) hx hb d_X7_workOut_278 (by decide) ?_
      refine W.lcmp hx hb d_X7_workOut_279 ?_
      refine lv_if_eq (tgt := 290) hx hb d_X7_workOut_280 (by decide) (fun hc => ?_) (fun hc => ?_)
      · have hv := hv.1 ((lg_cmp_eq _ _).mp hc)
        refine lv_iload_n hx hb d_X7_workOut_290 rfl (lv_at hl 2 rfl) ?_
        refine lv_bipush (v := 12) hx hb d_X7_workOut_291 (by decide) ?_
        refine lv_icmp_ne (tgt := 309) hx hb d_X7_workOut_293 (by decide) (fun hc => ?_) (fun hc => ?_)
        · have hv := hv.1 hc
          refine lv_iload_n hx hb d_X7_workOut_309 rfl (lv_at hl 2 rfl) ?_
          refine lv_bipush (v := 11) hx hb d_X7_workOut_310 (by decide) ?_
          refine lv_icmp_ne (tgt := 344) hx hb d_X7_workOut_312 (by decide) (fun hc => ?_) (fun hc => ?_)
          · have hv := hv.1 hc
            refine lv_aload_n hx hb d_X7_workOut_344 rfl (lv_at hl 1 rfl) ?_
            refine lv_iload_n hx hb d_X7_workOut_345 rfl (lv_at hl 2 rfl) ?_
            refine lv_lload hx hb d_X7_workOut_346 (lv_at hl 3 rfl) ?_
            refine lv_lload hx hb d_X7_workOut_348 (lv_at hl 4 rfl) ?_
            refine va_calll (va_runV (As := [.int x3, .long x5, .long x7]) (rest := []) ⟨hx, hb, hml, hown, hg⟩ (m_X7_plain l G x3 x5 x7 I714 L715 _  hv) (cwV 3 hg (mm_gV k_277 k_278 k_279 k_223 kc_X7_plain) rfl rfl rfl (by decide +kernel) ⟨Nat.le_of_ble_eq_true rfl, Nat.le_of_ble_eq_true rfl⟩) ⟨mm_blind, mm_recv hK hP (t := 36) (by decide) rfl rfl, fun U hU hW => mm_call hP hK hD hC hU hS hW⟩ rfl rfl hl.1 rfl (lv_room (Nat.le_of_ble_eq_true rfl)) d_X7_workOut_350 ⟨Nat.zero_le _, Nat.zero_le _⟩) hS (fun q _ h => h) (fun q h => h) (fun r719 u t H locs ht hvm hv hP hz1 hk1 hS => ?_)
            obtain ⟨I717, L718⟩ := u
            dsimp only at hv hP
            rw [ht] at hP
            have hD : mm_DW G I717 L718 := mm_D_any hD
            exact W.lret (v := r719) hx hb hr (fun t ht hW => ⟨⟨r719, (I717, L718), rfl, hv, mm_mv ht hP⟩, hS.F ht⟩) hS.2.2 d_X7_workOut_353
          · have hv := hv.2 hc
            refine lv_lload hx hb d_X7_workOut_315 (lv_at hl 0 rfl) ?_
            refine lv_lconst (v := 0) hx hb d_X7_workOut_317 (by decide) ?_
            refine W.lcmp hx hb d_X7_workOut_318 ?_
            refine lv_if_ne (tgt := 328) hx hb d_X7_workOut_319 (by decide) (fun hc => ?_) (fun hc => ?_)
            · have hv := hv.1 (fun q => hc ((lg_cmp_eq _ _).mpr q))
              refine lv_aload_n hx hb d_X7_workOut_328 rfl (lv_at hl 1 rfl) ?_
              refine lv_aload_n hx hb d_X7_workOut_329 rfl (lv_at hl 1 rfl) ?_
              refine lv_lload hx hb d_X7_workOut_330 (lv_at hl 3 rfl) ?_
              refine lv_lload hx hb d_X7_workOut_332 (lv_at hl 4 rfl) ?_
              refine lv_lmul hx hb d_X7_workOut_334 ?_
              refine lv_lload hx hb d_X7_workOut_335 (lv_at hl 0 rfl) ?_
              refine va_calll (va_runV (As := [.long (x5 * x7), .long xs0]) (rest := [.ref (G.2.2.1 36)]) ⟨hx, hb, hml, hown, hg⟩ (m_X7_rounded l G (x5 * x7) xs0 I714 L715 _  hv) (cwV 2 hg (mm_gV k_258 k_259 k_260 k_223 kc_X7_rounded) rfl rfl rfl (by decide +kernel) ⟨Nat.le_of_ble_eq_true rfl, Nat.le_of_ble_eq_true rfl⟩) ⟨mm_blind, mm_recv hK hP (t := 36) (by decide) rfl rfl, fun U hU hW => mm_call hP hK hD hC hU hS hW⟩ rfl rfl hl.1 rfl (lv_room (Nat.le_of_ble_eq_true rfl)) d_X7_workOut_337 ⟨Nat.zero_le _, Nat.zero_le _⟩) hS (fun q _ h => h) (fun q h => h) (fun r722 u t H locs ht hvm hv hP hz1 hk1 hS => ?_)
              obtain ⟨I720, L721⟩ := u
              dsimp only at hv hP
              rw [ht] at hP
              have hD : mm_DW G I720 L721 := mm_D_any hD
              refine va_calll (va_runV (As := [.long r722]) (rest := []) ⟨hx, hb, hml, hown, hg⟩ (m_X7_ranged l G r722 I720 L721 _  hv) (cwV 1 hg (mm_gV k_261 k_262 k_263 k_223 kc_X7_ranged) rfl rfl rfl (by decide +kernel) ⟨Nat.le_of_ble_eq_true rfl, Nat.le_of_ble_eq_true rfl⟩) ⟨mm_blind, mm_recv hK hP (t := 36) (by decide) rfl rfl, fun U hU hW => mm_call hP hK hD hC hU hS hW⟩ rfl rfl hl.1 rfl (lv_room (Nat.le_of_ble_eq_true rfl)) d_X7_workOut_340 ⟨Nat.zero_le _, Nat.zero_le _⟩) hS (fun q _ h => h) (fun q h => h) (fun r725 u t H locs ht hvm hv hP hz1 hk1 hS => ?_)
              obtain ⟨I723, L724⟩ := u
              dsimp only at hv hP
              rw [ht] at hP
              have hD : mm_DW G I723 L724 := mm_D_any hD
              exact W.lret (v := r725) hx hb hr (fun t ht hW => ⟨⟨r725, (I723, L724), rfl, hv, mm_mv ht hP⟩, hS.F ht⟩) hS.2.2 d_X7_workOut_343
            · have hv := hv.2 ((lg_cmp_eq _ _).mp hc)
              refine lv_ldc2 (v := 1000000000103) hx hb hown (hg _ k_280) d_X7_workOut_322 ?_
              refine lv_goto (tgt := 343) hx hb d_X7_workOut_325 (by decide) ?_
              exact W.lret (v := 1000000000103) hx hb hr (fun t ht hW => ⟨⟨1000000000103, (I714, L715), rfl, hv, mm_mv ht hP⟩, hS.F ht⟩) hS.2.2 d_X7_workOut_343
        · have hv := hv.2 hc
          refine lv_lload hx hb d_X7_workOut_296 (lv_at hl 3 rfl) ?_
          refine lv_lconst (v := 0) hx hb d_X7_workOut_298 (by decide) ?_
          refine W.lcmp hx hb d_X7_workOut_299 ?_
          refine lv_if_ne (tgt := 307) hx hb d_X7_workOut_300 (by decide) (fun hc => ?_) (fun hc => ?_)
          · have hv := hv.1 (fun q => hc ((lg_cmp_eq _ _).mpr q))
            refine lv_lconst (v := 0) hx hb d_X7_workOut_307 (by decide) ?_
            exact W.lret (v := 0) hx hb hr (fun t ht hW => ⟨⟨0, (I714, L715), rfl, hv, mm_mv ht hP⟩, hS.F ht⟩) hS.2.2 d_X7_workOut_308
          · have hv := hv.2 ((lg_cmp_eq _ _).mp hc)
            refine lv_lconst (v := 1) hx hb d_X7_workOut_303 (by decide) ?_
            refine lv_goto (tgt := 308) hx hb d_X7_workOut_304 (by decide) ?_
            exact W.lret (v := 1) hx hb hr (fun t ht hW => ⟨⟨1, (I714, L715), rfl, hv, mm_mv ht hP⟩, hS.F ht⟩) hS.2.2 d_X7_workOut_308
      · have hv := hv.2 (fun q => hc ((lg_cmp_eq _ _).mpr q))
        refine lv_aload_n hx hb d_X7_workOut_283 rfl (lv_at hl 1 rfl) ?_
        refine lv_lload hx hb d_X7_workOut_284 (lv_at hl 0 rfl) ?_
        refine va_calll (va_runV (As := [.long xs0]) (rest := []) ⟨hx, hb, hml, hown, hg⟩ (m_X7_stops l G xs0 I714 L715 _  hv) (cwV 1 hg (mm_gV k_265 k_266 k_267 k_223 kc_X7_stops) rfl rfl rfl (by decide +kernel) ⟨Nat.le_of_ble_eq_true rfl, Nat.le_of_ble_eq_true rfl⟩) ⟨mm_blind, mm_recv hK hP (t := 36) (by decide) rfl rfl, fun U hU hW => mm_call hP hK hD hC hU hS hW⟩ rfl rfl hl.1 rfl (lv_room (Nat.le_of_ble_eq_true rfl)) d_X7_workOut_286 ⟨Nat.zero_le _, Nat.zero_le _⟩) hS (fun q _ h => h) (fun q h => h) (fun r728 u t H locs ht hvm hv hP hz1 hk1 hS => ?_)
        obtain ⟨I726, L727⟩ := u
        dsimp only at hv hP
        rw [ht] at hP
        have hD : mm_DW G I726 L727 := mm_D_any hD
        exact W.lret (v := r728) hx hb hr (fun t ht hW => ⟨⟨r728, (I726, L727), rfl, hv, mm_mv ht hP⟩, hS.F ht⟩) hS.2.2 d_X7_workOut_289
    · have hv := hv.2 (fun q => hc ((lg_cmp_eq _ _).mpr q))
      refine lv_aload_n hx hb d_X7_workOut_265 rfl (lv_at hl 1 rfl) ?_
      refine lv_lload hx hb d_X7_workOut_266 (lv_at hl 4 rfl) ?_
      refine va_calll (va_runV (As := [.long x7]) (rest := []) ⟨hx, hb, hml, hown, hg⟩ (m_X7_stops l G x7 I711 L712 _  hv) (cwV 1 hg (mm_gV k_265 k_266 k_267 k_223 kc_X7_stops) rfl rfl rfl (by decide +kernel) ⟨Nat.le_of_ble_eq_true rfl, Nat.le_of_ble_eq_true rfl⟩) ⟨mm_blind, mm_recv hK hP (t := 36) (by decide) rfl rfl, fun U hU hW => mm_call hP hK hD hC hU hS hW⟩ rfl rfl hl.1 rfl (lv_room (Nat.le_of_ble_eq_true rfl)) d_X7_workOut_268 ⟨Nat.zero_le _, Nat.zero_le _⟩) hS (fun q _ h => h) (fun q h => h) (fun r731 u t H locs ht hvm hv hP hz1 hk1 hS => ?_)
      obtain ⟨I729, L730⟩ := u
      dsimp only at hv hP
      rw [ht] at hP
      have hD : mm_DW G I729 L730 := mm_D_any hD
      exact W.lret (v := r731) hx hb hr (fun t ht hW => ⟨⟨r731, (I729, L730), rfl, hv, mm_mv ht hP⟩, hS.F ht⟩) hS.2.2 d_X7_workOut_271
  · have hv := hv.2 (fun q => hc ((lg_cmp_eq _ _).mpr q))
    refine lv_aload_n hx hb d_X7_workOut_247 rfl (lv_at hl 1 rfl) ?_
    refine lv_lload hx hb d_X7_workOut_248 (lv_at hl 3 rfl) ?_
    refine va_calll (va_runV (As := [.long x5]) (rest := []) ⟨hx, hb, hml, hown, hg⟩ (m_X7_stops l G x5 I708 L709 _  hv) (cwV 1 hg (mm_gV k_265 k_266 k_267 k_223 kc_X7_stops) rfl rfl rfl (by decide +kernel) ⟨Nat.le_of_ble_eq_true rfl, Nat.le_of_ble_eq_true rfl⟩) ⟨mm_blind, mm_recv hK hP (t := 36) (by decide) rfl rfl, fun U hU hW => mm_call hP hK hD hC hU hS hW⟩ rfl rfl hl.1 rfl (lv_room (Nat.le_of_ble_eq_true rfl)) d_X7_workOut_250 ⟨Nat.zero_le _, Nat.zero_le _⟩) hS (fun q _ h => h) (fun q h => h) (fun r734 u t H locs ht hvm hv hP hz1 hk1 hS => ?_)
    obtain ⟨I732, L733⟩ := u
    dsimp only at hv hP
    rw [ht] at hP
    have hD : mm_DW G I732 L733 := mm_D_any hD
    exact W.lret (v := r734) hx hb hr (fun t ht hW => ⟨⟨r734, (I732, L733), rfl, hv, mm_mv ht hP⟩, hS.F ht⟩) hS.2.2 d_X7_workOut_253
set_option maxHeartbeats 4000000 in
set_option maxRecDepth 100000 in
theorem w_X7_workOut_211 {p : Program} {l : Launch} {e : Env} {s : State} {m : MethodId} {args : Array Value} {below : List Frame} {meth : Method} {c : Code} {G : mm_G} (hcx : mm_cx c_X7_workOut (some .long) 11 RX7 G p s m args meth c) (x2 : Int32) (x3 : Int32) (x5 : Int64) (xs0 : Int64) (I : mm_I) (L : mm_L) (Q : Int64 → mm_I → mm_L → Prop)  (hv : vc_X7_workOut_211 x2 x3 x5 xs0 I L Q) {H : Heap} {locs : List Loc} (hP : mm_PW G I L H) (hD : mm_DW G I L) (hS : va_S G.2.2.2.1 s.heap H locs) {ls : Array Slot} (hl : lv_has ls 11 [(0, .ref (G.2.2.1 36)), (2, .int x2), (3, .int x3), (5, .long x5)]) : W p l e (headSpec w_X7_workOut rm_X7_workOut).room s m args below meth c H locs 0 0 (MQ below (mm_ql G Q) args s 0 0 G.2.2.2.1) (F0 m 211 ls [.long xs0]) := by
  obtain ⟨hx, hb, hr, hlocks, hml, hown, hg, hK, hC⟩ := id hcx
  unfold vc_X7_workOut_211 at hv
  refine lv_lstore (lv' := [(7, .long xs0), (0, .ref (G.2.2.1 36)), (2, .int x2), (3, .int x3), (5, .long x5)]) hx hb d_X7_workOut_211 hl (by decide) rfl (fun ls hl => ?_)
  refine lv_iload_n hx hb d_X7_workOut_213 rfl (lv_at hl 3 rfl) ?_
  refine lv_bipush (v := 11) hx hb d_X7_workOut_214 (by decide) ?_
  refine lv_icmp_ne (tgt := 233) hx hb d_X7_workOut_216 (by decide) (fun hc => ?_) (fun hc => ?_)
  · have hv := hv.1 hc
    refine lv_lconst (v := 1) hx hb d_X7_workOut_233 (by decide) ?_
    exact w_X7_workOut_234 hcx x3 x5 xs0 1 I L Q  hv hP hD hS (lv_sub hl [1, 3, 4, 0] rfl)
  · have hv := hv.2 hc
    refine lv_aload_n hx hb d_X7_workOut_219 rfl (lv_at hl 1 rfl) ?_
    refine mm_gr (D := G.1) (C := RX7) (T := TX7) (N0 := 21) (r := 54) hx hb hg in_X7 hown hK hP (t := 36) (by decide) rfl rfl 19 (by decide) (hg _ k_264) (fun _ h9 => h9) rfl d_X7_workOut_220 ?_
    refine lv_aload_n hx hb d_X7_workOut_223 rfl (lv_at hl 1 rfl) ?_
    refine mm_gr (D := G.1) (C := RX7) (T := TX7) (N0 := 21) (r := 40) hx hb hg in_X7 hown hK hP (t := 36) (by decide) rfl rfl 5 (by decide) (hg _ k_241) (fun _ h9 => h9) rfl d_X7_workOut_224 ?_
    refine lv_iload_n hx hb d_X7_workOut_227 rfl (lv_at hl 2 rfl) ?_
    obtain ⟨h706, hv⟩ := hv
    refine mm_iald (D := G.1) hx hb hK hP (t := 40) (by decide) rfl rfl h706 d_X7_workOut_228 ?_
    obtain ⟨h707, hv⟩ := hv
    refine mm_lald (D := G.1) hx hb hK hP (t := 54) (by decide) rfl rfl h707 d_X7_workOut_229 ?_
    refine lv_goto (tgt := 234) hx hb d_X7_workOut_230 (by decide) ?_
    exact w_X7_workOut_234 hcx x3 x5 xs0 (L 54 ((I 40 x2.toNatClampNeg)).toNatClampNeg) I L Q  hv hP hD hS (lv_sub hl [1, 3, 4, 0] rfl)
set_option maxHeartbeats 4000000 in
set_option maxRecDepth 100000 in
theorem w_X7_workOut_0 {p : Program} {l : Launch} {e : Env} {s : State} {m : MethodId} {args : Array Value} {below : List Frame} {meth : Method} {c : Code} {G : mm_G} (hcx : mm_cx c_X7_workOut (some .long) 11 RX7 G p s m args meth c) (x1 : Int32) (x2 : Int32) (I : mm_I) (L : mm_L) (Q : Int64 → mm_I → mm_L → Prop)  (hv : vc_X7_workOut_0 x1 x2 I L Q) {H : Heap} {locs : List Loc} (hP : mm_PW G I L H) (hD : mm_DW G I L) (hS : va_S G.2.2.2.1 s.heap H locs) {ls : Array Slot} (hl : lv_has ls 11 [(0, .ref (G.2.2.1 36)), (1, .int x1), (2, .int x2)]) : W p l e (headSpec w_X7_workOut rm_X7_workOut).room s m args below meth c H locs 0 0 (MQ below (mm_ql G Q) args s 0 0 G.2.2.2.1) (F0 m 0 ls []) := by
  obtain ⟨hx, hb, hr, hlocks, hml, hown, hg, hK, hC⟩ := id hcx
  unfold vc_X7_workOut_0 at hv
  refine lv_aload_n hx hb d_X7_workOut_0 rfl (lv_at hl 0 rfl) ?_
  refine mm_gr (D := G.1) (C := RX7) (T := TX7) (N0 := 21) (r := 37) hx hb hg in_X7 hown hK hP (t := 36) (by decide) rfl rfl 2 (by decide) (hg _ k_238) (fun _ h9 => h9) rfl d_X7_workOut_1 ?_
  refine lv_iload_n hx hb d_X7_workOut_4 rfl (lv_at hl 2 rfl) ?_
  obtain ⟨h680, hv⟩ := hv
  refine mm_iald (D := G.1) hx hb hK hP (t := 37) (by decide) rfl rfl h680 d_X7_workOut_5 ?_
  refine lv_istore_n (lv' := [(3, .int (I 37 x2.toNatClampNeg)), (0, .ref (G.2.2.1 36)), (1, .int x1), (2, .int x2)]) hx hb d_X7_workOut_6 rfl hl (by decide) rfl (fun ls hl => ?_)
  refine lv_aload_n hx hb d_X7_workOut_7 rfl (lv_at hl 1 rfl) ?_
  refine mm_gr (D := G.1) (C := RX7) (T := TX7) (N0 := 21) (r := 38) hx hb hg in_X7 hown hK hP (t := 36) (by decide) rfl rfl 3 (by decide) (hg _ k_239) (fun _ h9 => h9) rfl d_X7_workOut_8 ?_
  refine lv_iload_n hx hb d_X7_workOut_11 rfl (lv_at hl 3 rfl) ?_
  obtain ⟨h681, hv⟩ := hv
  refine mm_iald (D := G.1) hx hb hK hP (t := 38) (by decide) rfl rfl h681 d_X7_workOut_12 ?_
  refine lv_istore (lv' := [(4, .int (I 38 x2.toNatClampNeg)), (3, .int (I 37 x2.toNatClampNeg)), (0, .ref (G.2.2.1 36)), (1, .int x1), (2, .int x2)]) hx hb d_X7_workOut_13 hl (by decide) rfl (fun ls hl => ?_)
  refine lv_iload_n hx hb d_X7_workOut_15 rfl (lv_at hl 1 rfl) ?_
  refine lv_if_ne (tgt := 23) hx hb d_X7_workOut_16 (by decide) (fun hc => ?_) (fun hc => ?_)
  · have hv := hv.1 hc
    refine lv_iload_n hx hb d_X7_workOut_23 rfl (lv_at hl 1 rfl) ?_
    refine lv_iconst (v := 1) hx hb d_X7_workOut_24 (by decide) ?_
    refine lv_icmp_ne (tgt := 42) hx hb d_X7_workOut_25 (by decide) (fun hc => ?_) (fun hc => ?_)
    · have hv := hv.1 hc
      refine lv_iload_n hx hb d_X7_workOut_42 rfl (lv_at hl 1 rfl) ?_
      refine lv_iconst (v := 2) hx hb d_X7_workOut_43 (by decide) ?_
      refine lv_icmp_ne (tgt := 55) hx hb d_X7_workOut_44 (by decide) (fun hc => ?_) (fun hc => ?_)
      · have hv := hv.1 hc
        refine lv_iload_n hx hb d_X7_workOut_55 rfl (lv_at hl 1 rfl) ?_
        refine lv_iconst (v := 3) hx hb d_X7_workOut_56 (by decide) ?_
        refine lv_icmp_ne (tgt := 72) hx hb d_X7_workOut_57 (by decide) (fun hc => ?_) (fun hc => ?_)
        · have hv := hv.1 hc
          refine lv_iload_n hx hb d_X7_workOut_72 rfl (lv_at hl 1 rfl) ?_
          refine lv_bipush (v := 16) hx hb d_X7_workOut_73 (by decide) ?_
          refine lv_icmp_ne (tgt := 82) hx hb d_X7_workOut_75 (by decide) (fun hc => ?_) (fun hc => ?_)
          · have hv := hv.1 hc
            refine lv_iload_n hx hb d_X7_workOut_82 rfl (lv_at hl 1 rfl) ?_
            refine lv_bipush (v := 13) hx hb d_X7_workOut_83 (by decide) ?_
            refine lv_icmp_eq (tgt := 112) hx hb d_X7_workOut_85 (by decide) (fun hc => ?_) (fun hc => ?_)
            · have hv := hv.1 hc
              exact w_X7_workOut_112 hcx x2 (I 37 x2.toNatClampNeg) I L Q  hv hP hD hS (lv_sub hl [2, 4, 1] rfl)
            · have hv := hv.2 hc
              refine lv_iload_n hx hb d_X7_workOut_88 rfl (lv_at hl 1 rfl) ?_
              refine lv_bipush (v := 14) hx hb d_X7_workOut_89 (by decide) ?_
              refine lv_icmp_eq (tgt := 112) hx hb d_X7_workOut_91 (by decide) (fun hc => ?_) (fun hc => ?_)
              · have hv := hv.1 hc
                exact w_X7_workOut_112 hcx x2 (I 37 x2.toNatClampNeg) I L Q  hv hP hD hS (lv_sub hl [2, 4, 1] rfl)
              · have hv := hv.2 hc
                refine lv_iload_n hx hb d_X7_workOut_94 rfl (lv_at hl 1 rfl) ?_
                refine lv_bipush (v := 15) hx hb d_X7_workOut_95 (by decide) ?_
                refine lv_icmp_eq (tgt := 112) hx hb d_X7_workOut_97 (by decide) (fun hc => ?_) (fun hc => ?_)
                · have hv := hv.1 hc
                  exact w_X7_workOut_112 hcx x2 (I 37 x2.toNatClampNeg) I L Q  hv hP hD hS (lv_sub hl [2, 4, 1] rfl)
                · have hv := hv.2 hc
                  refine lv_iload_n hx hb d_X7_workOut_100 rfl (lv_at hl 1 rfl) ?_
                  refine lv_bipush (v := 17) hx hb d_X7_workOut_101 (by decide) ?_
                  refine lv_icmp_eq (tgt := 112) hx hb d_X7_workOut_103 (by decide) (fun hc => ?_) (fun hc => ?_)
                  · have hv := hv.1 hc
                    exact w_X7_workOut_112 hcx x2 (I 37 x2.toNatClampNeg) I L Q  hv hP hD hS (lv_sub hl [2, 4, 1] rfl)
                  · have hv := hv.2 hc
                    refine lv_iload_n hx hb d_X7_workOut_106 rfl (lv_at hl 1 rfl) ?_
                    refine lv_bipush (v := 18) hx hb d_X7_workOut_107 (by decide) ?_
                    refine lv_icmp_ne (tgt := 119) hx hb d_X7_workOut_109 (by decide) (fun hc => ?_) (fun hc => ?_)
                    · have hv := hv.1 hc
                      refine lv_iload_n hx hb d_X7_workOut_119 rfl (lv_at hl 1 rfl) ?_
                      refine lv_bipush (v := 19) hx hb d_X7_workOut_120 (by decide) ?_
                      refine lv_icmp_ne (tgt := 181) hx hb d_X7_workOut_122 (by decide) (fun hc => ?_) (fun hc => ?_)
                      · have hv := hv.1 hc
                        refine lv_aload_n hx hb d_X7_workOut_181 rfl (lv_at hl 2 rfl) ?_
                        refine mm_gr (D := G.1) (C := RX7) (T := TX7) (N0 := 21) (r := 54) hx hb hg in_X7 hown hK hP (t := 36) (by decide) rfl rfl 19 (by decide) (hg _ k_264) (fun _ h9 => h9) rfl d_X7_workOut_182 ?_
                        refine lv_iload hx hb d_X7_workOut_185 (lv_at hl 0 rfl) ?_
                        obtain ⟨h682, hv⟩ := hv
                        refine mm_lald (D := G.1) hx hb hK hP (t := 54) (by decide) rfl rfl h682 d_X7_workOut_187 ?_
                        refine lv_lstore (lv' := [(5, .long (L 54 ((I 38 x2.toNatClampNeg)).toNatClampNeg)), (4, .int (I 38 x2.toNatClampNeg)), (3, .int (I 37 x2.toNatClampNeg)), (0, .ref (G.2.2.1 36)), (1, .int x1), (2, .int x2)]) hx hb d_X7_workOut_188 hl (by decide) rfl (fun ls hl => ?_)
                        refine lv_iload_n hx hb d_X7_workOut_190 rfl (lv_at hl 2 rfl) ?_
                        refine lv_bipush (v := 12) hx hb d_X7_workOut_191 (by decide) ?_
                        refine lv_icmp_ne (tgt := 200) hx hb d_X7_workOut_193 (by decide) (fun hc => ?_) (fun hc => ?_)
                        · have hv := hv.1 hc
                          refine lv_aload_n hx hb d_X7_workOut_200 rfl (lv_at hl 3 rfl) ?_
                          refine mm_gr (D := G.1) (C := RX7) (T := TX7) (N0 := 21) (r := 54) hx hb hg in_X7 hown hK hP (t := 36) (by decide) rfl rfl 19 (by decide) (hg _ k_264) (fun _ h9 => h9) rfl d_X7_workOut_201 ?_
                          refine lv_aload_n hx hb d_X7_workOut_204 rfl (lv_at hl 3 rfl) ?_
                          refine mm_gr (D := G.1) (C := RX7) (T := TX7) (N0 := 21) (r := 39) hx hb hg in_X7 hown hK hP (t := 36) (by decide) rfl rfl 4 (by decide) (hg _ k_240) (fun _ h9 => h9) rfl d_X7_workOut_205 ?_
                          refine lv_iload_n hx hb d_X7_workOut_208 rfl (lv_at hl 5 rfl) ?_
                          obtain ⟨h683, hv⟩ := hv
                          refine mm_iald (D := G.1) hx hb hK hP (t := 39) (by decide) rfl rfl h683 d_X7_workOut_209 ?_
                          obtain ⟨h684, hv⟩ := hv
                          refine mm_lald (D := G.1) hx hb hK hP (t := 54) (by decide) rfl rfl h684 d_X7_workOut_210 ?_
                          exact w_X7_workOut_211 hcx x2 (I 37 x2.toNatClampNeg) (L 54 ((I 38 x2.toNatClampNeg)).toNatClampNeg) (L 54 ((I 39 x2.toNatClampNeg)).toNatClampNeg) I L Q  hv hP hD hS (lv_sub hl [3, 5, 2, 0] rfl)
                        · have hv := hv.2 hc
                          refine lv_lconst (v := 0) hx hb d_X7_workOut_196 (by decide) ?_
                          refine lv_goto (tgt := 211) hx hb d_X7_workOut_197 (by decide) ?_
                          exact w_X7_workOut_211 hcx x2 (I 37 x2.toNatClampNeg) (L 54 ((I 38 x2.toNatClampNeg)).toNatClampNeg) 0 I L Q  hv hP hD hS (lv_sub hl [3, 5, 2, 0] rfl)
                      · have hv := hv.2 hc
                        refine lv_aload_n hx hb d_X7_workOut_125 rfl (lv_at hl 2 rfl) ?_
                        refine lv_aload_n hx hb d_X7_workOut_126 rfl (lv_at hl 2 rfl) ?_
                        refine mm_gr (D := G.1) (C := RX7) (T := TX7) (N0 := 21) (r := 54) hx hb hg in_X7 hown hK hP (t := 36) (by decide) rfl rfl 19 (by decide) (hg _ k_264) (fun _ h9 => h9) rfl d_X7_workOut_127 ?_
                        refine lv_aload_n hx hb d_X7_workOut_130 rfl (lv_at hl 2 rfl) ?_
                        refine mm_gr (D := G.1) (C := RX7) (T := TX7) (N0 := 21) (r := 39) hx hb hg in_X7 hown hK hP (t := 36) (by decide) rfl rfl 4 (by decide) (hg _ k_240) (fun _ h9 => h9) rfl d_X7_workOut_131 ?_
                        refine lv_iload_n hx hb d_X7_workOut_134 rfl (lv_at hl 4 rfl) ?_
                        obtain ⟨h685, hv⟩ := hv
                        refine mm_iald (D := G.1) hx hb hK hP (t := 39) (by decide) rfl rfl h685 d_X7_workOut_135 ?_
                        obtain ⟨h686, hv⟩ := hv
                        refine mm_lald (D := G.1) hx hb hK hP (t := 54) (by decide) rfl rfl h686 d_X7_workOut_136 ?_
                        refine va_calll (va_runV (As := [.long (L 54 ((I 39 x2.toNatClampNeg)).toNatClampNeg)]) (rest := []) ⟨hx, hb, hml, hown, hg⟩ (m_X7_stops l G (L 54 ((I 39 x2.toNatClampNeg)).toNatClampNeg) I L _  hv) (cwV 1 hg (mm_gV k_265 k_266 k_267 k_223 kc_X7_stops) rfl rfl rfl (by decide +kernel) ⟨Nat.le_of_ble_eq_true rfl, Nat.le_of_ble_eq_true rfl⟩) ⟨mm_blind, mm_recv hK hP (t := 36) (by decide) rfl rfl, fun U hU hW => mm_call hP hK hD hC hU hS hW⟩ rfl rfl hl.1 rfl (lv_room (Nat.le_of_ble_eq_true rfl)) d_X7_workOut_137 ⟨Nat.zero_le _, Nat.zero_le _⟩) hS (fun q _ h => h) (fun q h => h) (fun r689 u t H locs ht hvm hv hP hz1 hk1 hS => ?_)
                        obtain ⟨I687, L688⟩ := u
                        dsimp only at hv hP
                        rw [ht] at hP
                        have hD : mm_DW G I687 L688 := mm_D_any hD
                        refine lv_lconst (v := 0) hx hb d_X7_workOut_140 (by decide) ?_
                        refine W.lcmp hx hb d_X7_workOut_141 ?_
                        refine lv_if_eq (tgt := 163) hx hb d_X7_workOut_142 (by decide) (fun hc => ?_) (fun hc => ?_)
                        · have hv := hv.1 ((lg_cmp_eq _ _).mp hc)
                          refine lv_aload_n hx hb d_X7_workOut_163 rfl (lv_at hl 2 rfl) ?_
                          refine lv_iload hx hb d_X7_workOut_164 (lv_at hl 0 rfl) ?_
                          refine lv_aload_n hx hb d_X7_workOut_166 rfl (lv_at hl 2 rfl) ?_
                          refine mm_gr (D := G.1) (C := RX7) (T := TX7) (N0 := 21) (r := 54) hx hb hg in_X7 hown hK hP (t := 36) (by decide) rfl rfl 19 (by decide) (hg _ k_264) (fun _ h9 => h9) rfl d_X7_workOut_167 ?_
                          refine lv_aload_n hx hb d_X7_workOut_170 rfl (lv_at hl 2 rfl) ?_
                          refine mm_gr (D := G.1) (C := RX7) (T := TX7) (N0 := 21) (r := 39) hx hb hg in_X7 hown hK hP (t := 36) (by decide) rfl rfl 4 (by decide) (hg _ k_240) (fun _ h9 => h9) rfl d_X7_workOut_171 ?_
                          refine lv_iload_n hx hb d_X7_workOut_174 rfl (lv_at hl 4 rfl) ?_
                          obtain ⟨h690, hv⟩ := hv
                          refine mm_iald (D := G.1) hx hb hK hP (t := 39) (by decide) rfl rfl h690 d_X7_workOut_175 ?_
                          obtain ⟨h691, hv⟩ := hv
                          refine mm_lald (D := G.1) hx hb hK hP (t := 54) (by decide) rfl rfl h691 d_X7_workOut_176 ?_
                          refine va_calll (va_runV (As := [.int (I 38 x2.toNatClampNeg), .long (L688 54 ((I687 39 x2.toNatClampNeg)).toNatClampNeg)]) (rest := []) ⟨hx, hb, hml, hown, hg⟩ (m_X7_scale l G (I 38 x2.toNatClampNeg) (L688 54 ((I687 39 x2.toNatClampNeg)).toNatClampNeg) I687 L688 _  hv) (cwV 2 hg (mm_gV k_269 k_270 k_271 k_223 kc_X7_scale) rfl rfl rfl (by decide +kernel) ⟨Nat.le_of_ble_eq_true rfl, Nat.le_of_ble_eq_true rfl⟩) ⟨mm_blind, mm_recv hK hP (t := 36) (by decide) rfl rfl, fun U hU hW => mm_call hP hK hD hC hU hS hW⟩ rfl rfl hl.1 rfl (lv_room (Nat.le_of_ble_eq_true rfl)) d_X7_workOut_177 ⟨Nat.zero_le _, Nat.zero_le _⟩) hS (fun q _ h => h) (fun q h => h) (fun r694 u t H locs ht hvm hv hP hz1 hk1 hS => ?_)
                          obtain ⟨I692, L693⟩ := u
                          dsimp only at hv hP
                          rw [ht] at hP
                          have hD : mm_DW G I692 L693 := mm_D_any hD
                          exact W.lret (v := r694) hx hb hr (fun t ht hW => ⟨⟨r694, (I692, L693), rfl, hv, mm_mv ht hP⟩, hS.F ht⟩) hS.2.2 d_X7_workOut_180
                        · have hv := hv.2 (fun q => hc ((lg_cmp_eq _ _).mpr q))
                          refine lv_aload_n hx hb d_X7_workOut_145 rfl (lv_at hl 2 rfl) ?_
                          refine lv_aload_n hx hb d_X7_workOut_146 rfl (lv_at hl 2 rfl) ?_
                          refine mm_gr (D := G.1) (C := RX7) (T := TX7) (N0 := 21) (r := 54) hx hb hg in_X7 hown hK hP (t := 36) (by decide) rfl rfl 19 (by decide) (hg _ k_264) (fun _ h9 => h9) rfl d_X7_workOut_147 ?_
                          refine lv_aload_n hx hb d_X7_workOut_150 rfl (lv_at hl 2 rfl) ?_
                          refine mm_gr (D := G.1) (C := RX7) (T := TX7) (N0 := 21) (r := 39) hx hb hg in_X7 hown hK hP (t := 36) (by decide) rfl rfl 4 (by decide) (hg _ k_240) (fun _ h9 => h9) rfl d_X7_workOut_151 ?_
                          refine lv_iload_n hx hb d_X7_workOut_154 rfl (lv_at hl 4 rfl) ?_
                          obtain ⟨h695, hv⟩ := hv
                          refine mm_iald (D := G.1) hx hb hK hP (t := 39) (by decide) rfl rfl h695 d_X7_workOut_155 ?_
                          obtain ⟨h696, hv⟩ := hv
                          refine mm_lald (D := G.1) hx hb hK hP (t := 54) (by decide) rfl rfl h696 d_X7_workOut_156 ?_
                          refine va_calll (va_runV (As := [.long (L688 54 ((I687 39 x2.toNatClampNeg)).toNatClampNeg)]) (rest := []) ⟨hx, hb, hml, hown, hg⟩ (m_X7_stops l G (L688 54 ((I687 39 x2.toNatClampNeg)).toNatClampNeg) I687 L688 _  hv) (cwV 1 hg (mm_gV k_265 k_266 k_267 k_223 kc_X7_stops) rfl rfl rfl (by decide +kernel) ⟨Nat.le_of_ble_eq_true rfl, Nat.le_of_ble_eq_true rfl⟩) ⟨mm_blind, mm_recv hK hP (t := 36) (by decide) rfl rfl, fun U hU hW => mm_call hP hK hD hC hU hS hW⟩ rfl rfl hl.1 rfl (lv_room (Nat.le_of_ble_eq_true rfl)) d_X7_workOut_157 ⟨Nat.zero_le _, Nat.zero_le _⟩) hS (fun q _ h => h) (fun q h => h) (fun r699 u t H locs ht hvm hv hP hz1 hk1 hS => ?_)
                          obtain ⟨I697, L698⟩ := u
                          dsimp only at hv hP
                          rw [ht] at hP
                          have hD : mm_DW G I697 L698 := mm_D_any hD
                          refine lv_goto (tgt := 180) hx hb d_X7_workOut_160 (by decide) ?_
                          exact W.lret (v := r699) hx hb hr (fun t ht hW => ⟨⟨r699, (I697, L698), rfl, hv, mm_mv ht hP⟩, hS.F ht⟩) hS.2.2 d_X7_workOut_180
                    · have hv := hv.2 hc
                      exact w_X7_workOut_112 hcx x2 (I 37 x2.toNatClampNeg) I L Q  hv hP hD hS (lv_sub hl [2, 4, 1] rfl)
          · have hv := hv.2 hc
            refine lv_ldc2 (v := 1000000000001) hx hb hown (hg _ k_254) d_X7_workOut_78 ?_
            exact W.lret (v := 1000000000001) hx hb hr (fun t ht hW => ⟨⟨1000000000001, (I, L), rfl, hv, mm_mv ht hP⟩, hS.F ht⟩) hS.2.2 d_X7_workOut_81
        · have hv := hv.2 hc
          refine lv_aload_n hx hb d_X7_workOut_60 rfl (lv_at hl 2 rfl) ?_
          refine mm_gr (D := G.1) (C := RX7) (T := TX7) (N0 := 21) (r := 53) hx hb hg in_X7 hown hK hP (t := 36) (by decide) rfl rfl 18 (by decide) (hg _ k_272) (fun _ h9 => h9) rfl d_X7_workOut_61 ?_
          refine lv_iload_n hx hb d_X7_workOut_64 rfl (lv_at hl 3 rfl) ?_
          refine lv_iconst (v := 2) hx hb d_X7_workOut_65 (by decide) ?_
          refine lv_imul hx hb d_X7_workOut_66 ?_
          refine lv_iload hx hb d_X7_workOut_67 (lv_at hl 0 rfl) ?_
          refine lv_iadd hx hb d_X7_workOut_69 ?_
          obtain ⟨h700, hv⟩ := hv
          refine mm_lald (D := G.1) hx hb hK hP (t := 53) (by decide) rfl rfl h700 d_X7_workOut_70 ?_
          exact W.lret (v := (L 53 (((x1 * 2) + (I 38 x2.toNatClampNeg))).toNatClampNeg)) hx hb hr (fun t ht hW => ⟨⟨(L 53 (((x1 * 2) + (I 38 x2.toNatClampNeg))).toNatClampNeg), (I, L), rfl, hv, mm_mv ht hP⟩, hS.F ht⟩) hS.2.2 d_X7_workOut_71
      · have hv := hv.2 hc
        refine lv_aload_n hx hb d_X7_workOut_47 rfl (lv_at hl 2 rfl) ?_
        refine mm_gr (D := G.1) (C := RX7) (T := TX7) (N0 := 21) (r := 55) hx hb hg in_X7 hown hK hP (t := 36) (by decide) rfl rfl 20 (by decide) (hg _ k_273) (fun _ h9 => h9) rfl d_X7_workOut_48 ?_
        refine lv_iload hx hb d_X7_workOut_51 (lv_at hl 0 rfl) ?_
        obtain ⟨h701, hv⟩ := hv
        refine mm_lald (D := G.1) hx hb hK hP (t := 55) (by decide) rfl rfl h701 d_X7_workOut_53 ?_
        exact W.lret (v := (L 55 ((I 38 x2.toNatClampNeg)).toNatClampNeg)) hx hb hr (fun t ht hW => ⟨⟨(L 55 ((I 38 x2.toNatClampNeg)).toNatClampNeg), (I, L), rfl, hv, mm_mv ht hP⟩, hS.F ht⟩) hS.2.2 d_X7_workOut_54
    · have hv := hv.2 hc
      refine lv_aload_n hx hb d_X7_workOut_28 rfl (lv_at hl 2 rfl) ?_
      refine mm_gr (D := G.1) (C := RX7) (T := TX7) (N0 := 21) (r := 47) hx hb hg in_X7 hown hK hP (t := 36) (by decide) rfl rfl 12 (by decide) (hg _ k_246) (fun _ h9 => h9) rfl d_X7_workOut_29 ?_
      refine lv_iload_n hx hb d_X7_workOut_32 rfl (lv_at hl 3 rfl) ?_
      refine lv_bipush (v := 8) hx hb d_X7_workOut_33 (by decide) ?_
      refine lv_imul hx hb d_X7_workOut_35 ?_
      refine lv_iload hx hb d_X7_workOut_36 (lv_at hl 0 rfl) ?_
      refine lv_iadd hx hb d_X7_workOut_38 ?_
      obtain ⟨h702, hv⟩ := hv
      refine mm_iald (D := G.1) hx hb hK hP (t := 47) (by decide) rfl rfl h702 d_X7_workOut_39 ?_
      refine lv_i2l (v := ((I 47 (((x1 * 8) + (I 38 x2.toNatClampNeg))).toNatClampNeg)).toInt64) hx hb d_X7_workOut_40 rfl ?_
      exact W.lret (v := ((I 47 (((x1 * 8) + (I 38 x2.toNatClampNeg))).toNatClampNeg)).toInt64) hx hb hr (fun t ht hW => ⟨⟨((I 47 (((x1 * 8) + (I 38 x2.toNatClampNeg))).toNatClampNeg)).toInt64, (I, L), rfl, hv, mm_mv ht hP⟩, hS.F ht⟩) hS.2.2 d_X7_workOut_41
  · have hv := hv.2 hc
    refine lv_iload hx hb d_X7_workOut_19 (lv_at hl 0 rfl) ?_
    refine lv_i2l (v := ((I 38 x2.toNatClampNeg)).toInt64) hx hb d_X7_workOut_21 rfl ?_
    exact W.lret (v := ((I 38 x2.toNatClampNeg)).toInt64) hx hb hr (fun t ht hW => ⟨⟨((I 38 x2.toNatClampNeg)).toInt64, (I, L), rfl, hv, mm_mv ht hP⟩, hS.F ht⟩) hS.2.2 d_X7_workOut_22
abbrev vc_X7_workOut (x1 : Int32) (x2 : Int32) (I : mm_I) (L : mm_L) (Q : Int64 → mm_I → mm_L → Prop) : Prop := vc_X7_workOut_0 x1 x2 I L Q
set_option maxHeartbeats 4000000 in
set_option maxRecDepth 100000 in
theorem m_X7_workOut (l : Launch) (G : mm_G) (x1 : Int32) (x2 : Int32) (I : mm_I) (L : mm_L) (Q : Int64 → mm_I → mm_L → Prop)  (hv : vc_X7_workOut x1 x2 I L Q) : Met l y_X7_workOut w_X7_workOut rm_X7_workOut (mm_pre G [.ref (G.2.2.1 36), .int x1, .int x2] I L) (mm_ql G Q) 0 0 G.2.2.2.1 := by
  refine Met.ofW (cc := c_X7_workOut) (maxL := 11) (ret := (some .long)) (by decide) rfl ?_
  intro p e s m args below meth c s₁ B hml hw
  obtain ⟨rfl, hP, hK, hD, hC⟩ := hw
  have hts := atoms_spec (ws := w_X7_workOut) B.pre
  have hown : s.vm.findClass RX7 = some m.cls := findClass_of_methodNamed B.named
  have hl := lv_entry ([.ref (G.2.2.1 36), .int x1, .int x2]) (n := 11) (Nat.le_of_ble_eq_true rfl)
  rw [lg_entry_eq]
  generalize (lg_sl ([.ref (G.2.2.1 36), .int x1, .int x2]) ++ List.replicate (11 - (lg_sl ([.ref (G.2.2.1 36), .int x1, .int x2])).length) Slot.unset).toArray = ls at hl ⊢
  have hl : lv_has ls 11 [(0, .ref (G.2.2.1 36)), (1, .int x1), (2, .int x2)] := hl
  exact w_X7_workOut_0 ⟨B.exec, B.bytes, B.returns, B.notSynchronized, hml, hown, fun w h => hts w (List.mem_cons_of_mem _ h), hK, hC⟩ x1 x2 I L Q  hv hP hD va_S.rf hl
