abbrev rm_X7_out : Room := { frames := 0, cells := 0, slots := 0, locals := 0 }
def vc_X7_out_0 (x1 : Int32) (x2 : Int32) (x3 : Int32) (I : mm_I) (L : mm_L) (Q : Int32 → mm_I → mm_L → Prop) : Prop :=
  (x1 < x2 → Q 1 I L) ∧ (¬ x1 < x2 → (x1 ≤ x3 → Q 0 I L) ∧ (¬ x1 ≤ x3 → Q 1 I L))
set_option maxHeartbeats 4000000 in
set_option maxRecDepth 100000 in
theorem w_X7_out_0 {p : Program} {l : Launch} {e : Env} {s : State} {m : MethodId} {args : Array Value} {below : List Frame} {meth : Method} {c : Code} {G : mm_G} (hcx : mm_cx c_X7_out (some .boolean) 4 RX7 G p s m args meth c) (x1 : Int32) (x2 : Int32) (x3 : Int32) (I : mm_I) (L : mm_L) (Q : Int32 → mm_I → mm_L → Prop)  (hv : vc_X7_out_0 x1 x2 x3 I L Q) {H : Heap} {locs : List Loc} (hP : mm_PW G I L H) (hD : mm_DW G I L) (hS : va_S G.2.2.2.1 s.heap H locs) {ls : Array Slot} (hl : lv_has ls 4 [(0, .ref (G.2.2.1 36)), (1, .int x1), (2, .int x2), (3, .int x3)]) : W p l e (headSpec w_X7_out rm_X7_out).room s m args below meth c H locs 0 0 (MQ below (mm_qi G Q) args s 0 0 G.2.2.2.1) (F0 m 0 ls []) := by
  obtain ⟨hx, hb, hr, hlocks, hml, hown, hg, hK, hC⟩ := id hcx
  unfold vc_X7_out_0 at hv
  refine lv_iload_n hx hb d_X7_out_0 rfl (lv_at hl 1 rfl) ?_
  refine lv_iload_n hx hb d_X7_out_1 rfl (lv_at hl 2 rfl) ?_
  refine lv_icmp_lt (tgt := 10) hx hb d_X7_out_2 (by decide) (fun hc => ?_) (fun hc => ?_)
  · have hv := hv.1 hc
    refine lv_iconst (v := 1) hx hb d_X7_out_10 (by decide) ?_
    refine lv_goto (tgt := 15) hx hb d_X7_out_11 (by decide) ?_
    exact W.zret (v := 1) (ty := .boolean) hx hb hr (by decide) (fun t ht hW => ⟨⟨1, (I, L), rfl, hv, mm_mv ht hP⟩, hS.F ht⟩) hS.2.2 d_X7_out_15
  · have hv := hv.2 hc
    refine lv_iload_n hx hb d_X7_out_5 rfl (lv_at hl 1 rfl) ?_
    refine lv_iload_n hx hb d_X7_out_6 rfl (lv_at hl 3 rfl) ?_
    refine lv_icmp_le (tgt := 14) hx hb d_X7_out_7 (by decide) (fun hc => ?_) (fun hc => ?_)
    · have hv := hv.1 hc
      refine lv_iconst (v := 0) hx hb d_X7_out_14 (by decide) ?_
      exact W.zret (v := 0) (ty := .boolean) hx hb hr (by decide) (fun t ht hW => ⟨⟨0, (I, L), rfl, hv, mm_mv ht hP⟩, hS.F ht⟩) hS.2.2 d_X7_out_15
    · have hv := hv.2 hc
      refine lv_iconst (v := 1) hx hb d_X7_out_10 (by decide) ?_
      refine lv_goto (tgt := 15) hx hb d_X7_out_11 (by decide) ?_
      exact W.zret (v := 1) (ty := .boolean) hx hb hr (by decide) (fun t ht hW => ⟨⟨1, (I, L), rfl, hv, mm_mv ht hP⟩, hS.F ht⟩) hS.2.2 d_X7_out_15
abbrev vc_X7_out (x1 : Int32) (x2 : Int32) (x3 : Int32) (I : mm_I) (L : mm_L) (Q : Int32 → mm_I → mm_L → Prop) : Prop := vc_X7_out_0 x1 x2 x3 I L Q
set_option maxHeartbeats 4000000 in
set_option maxRecDepth 100000 in
theorem m_X7_out (l : Launch) (G : mm_G) (x1 : Int32) (x2 : Int32) (x3 : Int32) (I : mm_I) (L : mm_L) (Q : Int32 → mm_I → mm_L → Prop)  (hv : vc_X7_out x1 x2 x3 I L Q) : Met l y_X7_out w_X7_out rm_X7_out (mm_pre G [.ref (G.2.2.1 36), .int x1, .int x2, .int x3] I L) (mm_qi G Q) 0 0 G.2.2.2.1 := by
  refine Met.ofW (cc := c_X7_out) (maxL := 4) (ret := (some .boolean)) (by decide) rfl ?_
  intro p e s m args below meth c s₁ B hml hw
  obtain ⟨rfl, hP, hK, hD, hC⟩ := hw
  have hts := atoms_spec (ws := w_X7_out) B.pre
  have hown : s.vm.findClass RX7 = some m.cls := findClass_of_methodNamed B.named
  have hl := lv_entry ([.ref (G.2.2.1 36), .int x1, .int x2, .int x3]) (n := 4) (Nat.le_of_ble_eq_true rfl)
  rw [lg_entry_eq]
  generalize (lg_sl ([.ref (G.2.2.1 36), .int x1, .int x2, .int x3]) ++ List.replicate (4 - (lg_sl ([.ref (G.2.2.1 36), .int x1, .int x2, .int x3])).length) Slot.unset).toArray = ls at hl ⊢
  have hl : lv_has ls 4 [(0, .ref (G.2.2.1 36)), (1, .int x1), (2, .int x2), (3, .int x3)] := hl
  exact w_X7_out_0 ⟨B.exec, B.bytes, B.returns, B.notSynchronized, hml, hown, fun w h => hts w (List.mem_cons_of_mem _ h), hK, hC⟩ x1 x2 x3 I L Q  hv hP hD va_S.rf hl
abbrev rm_X7_isNode : Room := { frames := 0, cells := 0, slots := 0, locals := 0 }
def vc_X7_isNode_0 (x1 : Int32) (I : mm_I) (L : mm_L) (Q : Int32 → mm_I → mm_L → Prop) : Prop :=
  (x1 < 0 → Q 0 I L) ∧ (¬ x1 < 0 → ((I 36 0) ≤ x1 → Q 0 I L) ∧ (¬ (I 36 0) ≤ x1 → Q 1 I L))
set_option maxHeartbeats 4000000 in
set_option maxRecDepth 100000 in
theorem w_X7_isNode_0 {p : Program} {l : Launch} {e : Env} {s : State} {m : MethodId} {args : Array Value} {below : List Frame} {meth : Method} {c : Code} {G : mm_G} (hcx : mm_cx c_X7_isNode (some .boolean) 2 RX7 G p s m args meth c) (x1 : Int32) (I : mm_I) (L : mm_L) (Q : Int32 → mm_I → mm_L → Prop)  (hv : vc_X7_isNode_0 x1 I L Q) {H : Heap} {locs : List Loc} (hP : mm_PW G I L H) (hD : mm_DW G I L) (hS : va_S G.2.2.2.1 s.heap H locs) {ls : Array Slot} (hl : lv_has ls 2 [(0, .ref (G.2.2.1 36)), (1, .int x1)]) : W p l e (headSpec w_X7_isNode rm_X7_isNode).room s m args below meth c H locs 0 0 (MQ below (mm_qi G Q) args s 0 0 G.2.2.2.1) (F0 m 0 ls []) := by
  obtain ⟨hx, hb, hr, hlocks, hml, hown, hg, hK, hC⟩ := id hcx
  unfold vc_X7_isNode_0 at hv
  refine lv_iload_n hx hb d_X7_isNode_0 rfl (lv_at hl 1 rfl) ?_
  refine lv_if_lt (tgt := 16) hx hb d_X7_isNode_1 (by decide) (fun hc => ?_) (fun hc => ?_)
  · have hv := hv.1 hc
    refine lv_iconst (v := 0) hx hb d_X7_isNode_16 (by decide) ?_
    exact W.zret (v := 0) (ty := .boolean) hx hb hr (by decide) (fun t ht hW => ⟨⟨0, (I, L), rfl, hv, mm_mv ht hP⟩, hS.F ht⟩) hS.2.2 d_X7_isNode_17
  · have hv := hv.2 hc
    refine lv_iload_n hx hb d_X7_isNode_4 rfl (lv_at hl 1 rfl) ?_
    refine lv_aload_n hx hb d_X7_isNode_5 rfl (lv_at hl 0 rfl) ?_
    refine mm_gi (D := G.1) (C := RX7) (T := TX7) (N0 := 21) hx hb hg in_X7 hown hK hP (t := 36) (by decide) rfl rfl 0 (by decide) (hg _ k_219) (fun _ h9 => h9) rfl d_X7_isNode_6 ?_
    refine lv_icmp_ge (tgt := 16) hx hb d_X7_isNode_9 (by decide) (fun hc => ?_) (fun hc => ?_)
    · have hv := hv.1 hc
      refine lv_iconst (v := 0) hx hb d_X7_isNode_16 (by decide) ?_
      exact W.zret (v := 0) (ty := .boolean) hx hb hr (by decide) (fun t ht hW => ⟨⟨0, (I, L), rfl, hv, mm_mv ht hP⟩, hS.F ht⟩) hS.2.2 d_X7_isNode_17
    · have hv := hv.2 hc
      refine lv_iconst (v := 1) hx hb d_X7_isNode_12 (by decide) ?_
      refine lv_goto (tgt := 17) hx hb d_X7_isNode_13 (by decide) ?_
      exact W.zret (v := 1) (ty := .boolean) hx hb hr (by decide) (fun t ht hW => ⟨⟨1, (I, L), rfl, hv, mm_mv ht hP⟩, hS.F ht⟩) hS.2.2 d_X7_isNode_17
abbrev vc_X7_isNode (x1 : Int32) (I : mm_I) (L : mm_L) (Q : Int32 → mm_I → mm_L → Prop) : Prop := vc_X7_isNode_0 x1 I L Q
set_option maxHeartbeats 4000000 in
set_option maxRecDepth 100000 in
theorem m_X7_isNode (l : Launch) (G : mm_G) (x1 : Int32) (I : mm_I) (L : mm_L) (Q : Int32 → mm_I → mm_L → Prop)  (hv : vc_X7_isNode x1 I L Q) : Met l y_X7_isNode w_X7_isNode rm_X7_isNode (mm_pre G [.ref (G.2.2.1 36), .int x1] I L) (mm_qi G Q) 0 0 G.2.2.2.1 := by
  refine Met.ofW (cc := c_X7_isNode) (maxL := 2) (ret := (some .boolean)) (by decide) rfl ?_
  intro p e s m args below meth c s₁ B hml hw
  obtain ⟨rfl, hP, hK, hD, hC⟩ := hw
  have hts := atoms_spec (ws := w_X7_isNode) B.pre
  have hown : s.vm.findClass RX7 = some m.cls := findClass_of_methodNamed B.named
  have hl := lv_entry ([.ref (G.2.2.1 36), .int x1]) (n := 2) (Nat.le_of_ble_eq_true rfl)
  rw [lg_entry_eq]
  generalize (lg_sl ([.ref (G.2.2.1 36), .int x1]) ++ List.replicate (2 - (lg_sl ([.ref (G.2.2.1 36), .int x1])).length) Slot.unset).toArray = ls at hl ⊢
  have hl : lv_has ls 2 [(0, .ref (G.2.2.1 36)), (1, .int x1)] := hl
  exact w_X7_isNode_0 ⟨B.exec, B.bytes, B.returns, B.notSynchronized, hml, hown, fun w h => hts w (List.mem_cons_of_mem _ h), hK, hC⟩ x1 I L Q  hv hP hD va_S.rf hl
abbrev rm_X7_named : Room := { frames := 0, cells := 0, slots := 0, locals := 0 }
def vc_X7_named_48 (x1 : Int32) (I : mm_I) (L : mm_L) (Q : Int32 → mm_I → mm_L → Prop) : Prop :=
  (¬ x1 = 18 → Q 0 I L) ∧ (x1 = 18 → Q 3 I L)
def vc_X7_named_0 (x1 : Int32) (I : mm_I) (L : mm_L) (Q : Int32 → mm_I → mm_L → Prop) : Prop :=
  (¬ x1 = 12 → (x1 = 11 → Q 7 I L) ∧ (¬ x1 = 11 → (x1 = 15 → Q 7 I L) ∧ (¬ x1 = 15 → (¬ x1 = 17 → (¬ x1 = 19 → (x1 ≤ 3 → vc_X7_named_48 x1 I L Q) ∧ (¬ x1 ≤ 3 → (x1 < 15 → Q 3 I L) ∧ (¬ x1 < 15 → vc_X7_named_48 x1 I L Q))) ∧ (x1 = 19 → Q 2 I L)) ∧ (x1 = 17 → Q 7 I L)))) ∧ (x1 = 12 → Q 1 I L)
set_option maxHeartbeats 4000000 in
set_option maxRecDepth 100000 in
theorem w_X7_named_48 {p : Program} {l : Launch} {e : Env} {s : State} {m : MethodId} {args : Array Value} {below : List Frame} {meth : Method} {c : Code} {G : mm_G} (hcx : mm_cx c_X7_named (some .int) 2 RX7 G p s m args meth c) (x1 : Int32) (I : mm_I) (L : mm_L) (Q : Int32 → mm_I → mm_L → Prop)  (hv : vc_X7_named_48 x1 I L Q) {H : Heap} {locs : List Loc} (hP : mm_PW G I L H) (hD : mm_DW G I L) (hS : va_S G.2.2.2.1 s.heap H locs) {ls : Array Slot} (hl : lv_has ls 2 [(1, .int x1)]) : W p l e (headSpec w_X7_named rm_X7_named).room s m args below meth c H locs 0 0 (MQ below (mm_qi G Q) args s 0 0 G.2.2.2.1) (F0 m 48 ls []) := by
  obtain ⟨hx, hb, hr, hlocks, hml, hown, hg, hK, hC⟩ := id hcx
  unfold vc_X7_named_48 at hv
  refine lv_iload_n hx hb d_X7_named_48 rfl (lv_at hl 0 rfl) ?_
  refine lv_bipush (v := 18) hx hb d_X7_named_49 (by decide) ?_
  refine lv_icmp_ne (tgt := 58) hx hb d_X7_named_51 (by decide) (fun hc => ?_) (fun hc => ?_)
  · have hv := hv.1 hc
    refine lv_iconst (v := 0) hx hb d_X7_named_58 (by decide) ?_
    exact W.iret (v := 0) hx hb hr (fun t ht hW => ⟨⟨0, (I, L), rfl, hv, mm_mv ht hP⟩, hS.F ht⟩) hS.2.2 d_X7_named_59
  · have hv := hv.2 hc
    refine lv_iconst (v := 3) hx hb d_X7_named_54 (by decide) ?_
    refine lv_goto (tgt := 59) hx hb d_X7_named_55 (by decide) ?_
    exact W.iret (v := 3) hx hb hr (fun t ht hW => ⟨⟨3, (I, L), rfl, hv, mm_mv ht hP⟩, hS.F ht⟩) hS.2.2 d_X7_named_59
set_option maxHeartbeats 4000000 in
set_option maxRecDepth 100000 in
theorem w_X7_named_0 {p : Program} {l : Launch} {e : Env} {s : State} {m : MethodId} {args : Array Value} {below : List Frame} {meth : Method} {c : Code} {G : mm_G} (hcx : mm_cx c_X7_named (some .int) 2 RX7 G p s m args meth c) (x1 : Int32) (I : mm_I) (L : mm_L) (Q : Int32 → mm_I → mm_L → Prop)  (hv : vc_X7_named_0 x1 I L Q) {H : Heap} {locs : List Loc} (hP : mm_PW G I L H) (hD : mm_DW G I L) (hS : va_S G.2.2.2.1 s.heap H locs) {ls : Array Slot} (hl : lv_has ls 2 [(0, .ref (G.2.2.1 36)), (1, .int x1)]) : W p l e (headSpec w_X7_named rm_X7_named).room s m args below meth c H locs 0 0 (MQ below (mm_qi G Q) args s 0 0 G.2.2.2.1) (F0 m 0 ls []) := by
  obtain ⟨hx, hb, hr, hlocks, hml, hown, hg, hK, hC⟩ := id hcx
  unfold vc_X7_named_0 at hv
  refine lv_iload_n hx hb d_X7_named_0 rfl (lv_at hl 1 rfl) ?_
  refine lv_bipush (v := 12) hx hb d_X7_named_1 (by decide) ?_
  refine lv_icmp_ne (tgt := 8) hx hb d_X7_named_3 (by decide) (fun hc => ?_) (fun hc => ?_)
  · have hv := hv.1 hc
    refine lv_iload_n hx hb d_X7_named_8 rfl (lv_at hl 1 rfl) ?_
    refine lv_bipush (v := 11) hx hb d_X7_named_9 (by decide) ?_
    refine lv_icmp_eq (tgt := 26) hx hb d_X7_named_11 (by decide) (fun hc => ?_) (fun hc => ?_)
    · have hv := hv.1 hc
      refine lv_bipush (v := 7) hx hb d_X7_named_26 (by decide) ?_
      exact W.iret (v := 7) hx hb hr (fun t ht hW => ⟨⟨7, (I, L), rfl, hv, mm_mv ht hP⟩, hS.F ht⟩) hS.2.2 d_X7_named_28
    · have hv := hv.2 hc
      refine lv_iload_n hx hb d_X7_named_14 rfl (lv_at hl 1 rfl) ?_
      refine lv_bipush (v := 15) hx hb d_X7_named_15 (by decide) ?_
      refine lv_icmp_eq (tgt := 26) hx hb d_X7_named_17 (by decide) (fun hc => ?_) (fun hc => ?_)
      · have hv := hv.1 hc
        refine lv_bipush (v := 7) hx hb d_X7_named_26 (by decide) ?_
        exact W.iret (v := 7) hx hb hr (fun t ht hW => ⟨⟨7, (I, L), rfl, hv, mm_mv ht hP⟩, hS.F ht⟩) hS.2.2 d_X7_named_28
      · have hv := hv.2 hc
        refine lv_iload_n hx hb d_X7_named_20 rfl (lv_at hl 1 rfl) ?_
        refine lv_bipush (v := 17) hx hb d_X7_named_21 (by decide) ?_
        refine lv_icmp_ne (tgt := 29) hx hb d_X7_named_23 (by decide) (fun hc => ?_) (fun hc => ?_)
        · have hv := hv.1 hc
          refine lv_iload_n hx hb d_X7_named_29 rfl (lv_at hl 1 rfl) ?_
          refine lv_bipush (v := 19) hx hb d_X7_named_30 (by decide) ?_
          refine lv_icmp_ne (tgt := 37) hx hb d_X7_named_32 (by decide) (fun hc => ?_) (fun hc => ?_)
          · have hv := hv.1 hc
            refine lv_iload_n hx hb d_X7_named_37 rfl (lv_at hl 1 rfl) ?_
            refine lv_iconst (v := 3) hx hb d_X7_named_38 (by decide) ?_
            refine lv_icmp_le (tgt := 48) hx hb d_X7_named_39 (by decide) (fun hc => ?_) (fun hc => ?_)
            · have hv := hv.1 hc
              exact w_X7_named_48 hcx x1 I L Q  hv hP hD hS (lv_sub hl [1] rfl)
            · have hv := hv.2 hc
              refine lv_iload_n hx hb d_X7_named_42 rfl (lv_at hl 1 rfl) ?_
              refine lv_bipush (v := 15) hx hb d_X7_named_43 (by decide) ?_
              refine lv_icmp_lt (tgt := 54) hx hb d_X7_named_45 (by decide) (fun hc => ?_) (fun hc => ?_)
              · have hv := hv.1 hc
                refine lv_iconst (v := 3) hx hb d_X7_named_54 (by decide) ?_
                refine lv_goto (tgt := 59) hx hb d_X7_named_55 (by decide) ?_
                exact W.iret (v := 3) hx hb hr (fun t ht hW => ⟨⟨3, (I, L), rfl, hv, mm_mv ht hP⟩, hS.F ht⟩) hS.2.2 d_X7_named_59
              · have hv := hv.2 hc
                exact w_X7_named_48 hcx x1 I L Q  hv hP hD hS (lv_sub hl [1] rfl)
          · have hv := hv.2 hc
            refine lv_iconst (v := 2) hx hb d_X7_named_35 (by decide) ?_
            exact W.iret (v := 2) hx hb hr (fun t ht hW => ⟨⟨2, (I, L), rfl, hv, mm_mv ht hP⟩, hS.F ht⟩) hS.2.2 d_X7_named_36
        · have hv := hv.2 hc
          refine lv_bipush (v := 7) hx hb d_X7_named_26 (by decide) ?_
          exact W.iret (v := 7) hx hb hr (fun t ht hW => ⟨⟨7, (I, L), rfl, hv, mm_mv ht hP⟩, hS.F ht⟩) hS.2.2 d_X7_named_28
  · have hv := hv.2 hc
    refine lv_iconst (v := 1) hx hb d_X7_named_6 (by decide) ?_
    exact W.iret (v := 1) hx hb hr (fun t ht hW => ⟨⟨1, (I, L), rfl, hv, mm_mv ht hP⟩, hS.F ht⟩) hS.2.2 d_X7_named_7
abbrev vc_X7_named (x1 : Int32) (I : mm_I) (L : mm_L) (Q : Int32 → mm_I → mm_L → Prop) : Prop := vc_X7_named_0 x1 I L Q
set_option maxHeartbeats 4000000 in
set_option maxRecDepth 100000 in
theorem m_X7_named (l : Launch) (G : mm_G) (x1 : Int32) (I : mm_I) (L : mm_L) (Q : Int32 → mm_I → mm_L → Prop)  (hv : vc_X7_named x1 I L Q) : Met l y_X7_named w_X7_named rm_X7_named (mm_pre G [.ref (G.2.2.1 36), .int x1] I L) (mm_qi G Q) 0 0 G.2.2.2.1 := by
  refine Met.ofW (cc := c_X7_named) (maxL := 2) (ret := (some .int)) (by decide) rfl ?_
  intro p e s m args below meth c s₁ B hml hw
  obtain ⟨rfl, hP, hK, hD, hC⟩ := hw
  have hts := atoms_spec (ws := w_X7_named) B.pre
  have hown : s.vm.findClass RX7 = some m.cls := findClass_of_methodNamed B.named
  have hl := lv_entry ([.ref (G.2.2.1 36), .int x1]) (n := 2) (Nat.le_of_ble_eq_true rfl)
  rw [lg_entry_eq]
  generalize (lg_sl ([.ref (G.2.2.1 36), .int x1]) ++ List.replicate (2 - (lg_sl ([.ref (G.2.2.1 36), .int x1])).length) Slot.unset).toArray = ls at hl ⊢
  have hl : lv_has ls 2 [(0, .ref (G.2.2.1 36)), (1, .int x1)] := hl
  exact w_X7_named_0 ⟨B.exec, B.bytes, B.returns, B.notSynchronized, hml, hown, fun w h => hts w (List.mem_cons_of_mem _ h), hK, hC⟩ x1 I L Q  hv hP hD va_S.rf hl
abbrev rm_X7_fits : Room := { frames := 1, cells := 0, slots := 0, locals := 23 }
def vc_X7_fits_107 (x4 : Int32) (x5 : Int32) (I : mm_I) (L : mm_L) (Q : Int32 → mm_I → mm_L → Prop) : Prop :=
  ((x5 &&& 4) = 0 → Q 1 I L) ∧ (¬ (x5 &&& 4) = 0 → vc_X7_isNode x4 I L (fun r551 I549 L550 => (r551 = 0 → Q 0 I549 L550) ∧ (¬ r551 = 0 → Q 1 I549 L550)))
def vc_X7_fits_92 (x3 : Int32) (x4 : Int32) (x5 : Int32) (I : mm_I) (L : mm_L) (Q : Int32 → mm_I → mm_L → Prop) : Prop :=
  ((x5 &&& 2) = 0 → vc_X7_fits_107 x4 x5 I L Q) ∧ (¬ (x5 &&& 2) = 0 → vc_X7_isNode x3 I L (fun r548 I546 L547 => (r548 = 0 → Q 0 I546 L547) ∧ (¬ r548 = 0 → vc_X7_fits_107 x4 x5 I546 L547 Q)))
def vc_X7_fits_57 (x1 : Int32) (x2 : Int32) (x3 : Int32) (x4 : Int32) (I : mm_I) (L : mm_L) (Q : Int32 → mm_I → mm_L → Prop) : Prop :=
  vc_X7_named x1 I L (fun r542 I540 L541 => ((r542 &&& 1) = 0 → vc_X7_fits_92 x3 x4 r542 I540 L541 Q) ∧ (¬ (r542 &&& 1) = 0 → vc_X7_isNode x2 I540 L541 (fun r545 I543 L544 => (¬ r545 = 0 → vc_X7_fits_92 x3 x4 r542 I543 L544 Q) ∧ (r545 = 0 → (¬ x1 = 17 → Q 0 I543 L544) ∧ (x1 = 17 → (x2 = (-1) → vc_X7_fits_92 x3 x4 r542 I543 L544 Q) ∧ (¬ x2 = (-1) → Q 0 I543 L544))))))
def vc_X7_fits_45 (x1 : Int32) (x2 : Int32) (x3 : Int32) (x4 : Int32) (I : mm_I) (L : mm_L) (Q : Int32 → mm_I → mm_L → Prop) : Prop :=
  vc_X7_out x2 0 1 I L (fun r539 I537 L538 => (r539 = 0 → vc_X7_fits_57 x1 x2 x3 x4 I537 L538 Q) ∧ (¬ r539 = 0 → Q 0 I537 L538))
def vc_X7_fits_34 (x1 : Int32) (x2 : Int32) (x3 : Int32) (x4 : Int32) (I : mm_I) (L : mm_L) (Q : Int32 → mm_I → mm_L → Prop) : Prop :=
  (x1 = 3 → vc_X7_fits_45 x1 x2 x3 x4 I L Q) ∧ (¬ x1 = 3 → (¬ x1 = 19 → vc_X7_fits_57 x1 x2 x3 x4 I L Q) ∧ (x1 = 19 → vc_X7_fits_45 x1 x2 x3 x4 I L Q))
def vc_X7_fits_23 (x1 : Int32) (x2 : Int32) (x3 : Int32) (x4 : Int32) (I : mm_I) (L : mm_L) (Q : Int32 → mm_I → mm_L → Prop) : Prop :=
  vc_X7_out x2 0 7 I L (fun r536 I534 L535 => (¬ r536 = 0 → Q 0 I534 L535) ∧ (r536 = 0 → vc_X7_fits_34 x1 x2 x3 x4 I534 L535 Q))
def vc_X7_fits_0 (x1 : Int32) (x2 : Int32) (x3 : Int32) (x4 : Int32) (I : mm_I) (L : mm_L) (Q : Int32 → mm_I → mm_L → Prop) : Prop :=
  vc_X7_out x1 0 19 I L (fun r533 I531 L532 => (r533 = 0 → (x1 = 1 → vc_X7_fits_23 x1 x2 x3 x4 I531 L532 Q) ∧ (¬ x1 = 1 → (¬ x1 = 2 → vc_X7_fits_34 x1 x2 x3 x4 I531 L532 Q) ∧ (x1 = 2 → vc_X7_fits_23 x1 x2 x3 x4 I531 L532 Q))) ∧ (¬ r533 = 0 → Q 0 I531 L532))
set_option maxHeartbeats 4000000 in
set_option maxRecDepth 100000 in
theorem w_X7_fits_107 {p : Program} {l : Launch} {e : Env} {s : State} {m : MethodId} {args : Array Value} {below : List Frame} {meth : Method} {c : Code} {G : mm_G} (hcx : mm_cx c_X7_fits (some .boolean) 6 RX7 G p s m args meth c) (x4 : Int32) (x5 : Int32) (I : mm_I) (L : mm_L) (Q : Int32 → mm_I → mm_L → Prop)  (hv : vc_X7_fits_107 x4 x5 I L Q) {H : Heap} {locs : List Loc} (hP : mm_PW G I L H) (hD : mm_DW G I L) (hS : va_S G.2.2.2.1 s.heap H locs) {ls : Array Slot} (hl : lv_has ls 6 [(0, .ref (G.2.2.1 36)), (4, .int x4), (5, .int x5)]) : W p l e (headSpec w_X7_fits rm_X7_fits).room s m args below meth c H locs 0 0 (MQ below (mm_qi G Q) args s 0 0 G.2.2.2.1) (F0 m 107 ls []) := by
  obtain ⟨hx, hb, hr, hlocks, hml, hown, hg, hK, hC⟩ := id hcx
  unfold vc_X7_fits_107 at hv
  refine lv_iload hx hb d_X7_fits_107 (lv_at hl 2 rfl) ?_
  refine lv_iconst (v := 4) hx hb d_X7_fits_109 (by decide) ?_
  refine lv_iand hx hb d_X7_fits_110 ?_
  refine lv_if_eq (tgt := 123) hx hb d_X7_fits_111 (by decide) (fun hc => ?_) (fun hc => ?_)
  · have hv := hv.1 hc
    refine lv_iconst (v := 1) hx hb d_X7_fits_123 (by decide) ?_
    refine lv_goto (tgt := 128) hx hb d_X7_fits_124 (by decide) ?_
    exact W.zret (v := 1) (ty := .boolean) hx hb hr (by decide) (fun t ht hW => ⟨⟨1, (I, L), rfl, hv, mm_mv ht hP⟩, hS.F ht⟩) hS.2.2 d_X7_fits_128
  · have hv := hv.2 hc
    refine lv_aload_n hx hb d_X7_fits_114 rfl (lv_at hl 0 rfl) ?_
    refine lv_iload hx hb d_X7_fits_115 (lv_at hl 1 rfl) ?_
    refine va_calli (va_runV (As := [.int x4]) (rest := []) ⟨hx, hb, hml, hown, hg⟩ (m_X7_isNode l G x4 I L _  hv) (cwV 1 hg (mm_gV k_224 k_225 k_226 k_223 kc_X7_isNode) rfl rfl rfl (by decide +kernel) ⟨Nat.le_of_ble_eq_true rfl, Nat.le_of_ble_eq_true rfl⟩) ⟨mm_blind, mm_recv hK hP (t := 36) (by decide) rfl rfl, fun U hU hW => mm_call hP hK hD hC hU hS hW⟩ rfl rfl hl.1 rfl (lv_room (Nat.le_of_ble_eq_true rfl)) d_X7_fits_117 ⟨Nat.zero_le _, Nat.zero_le _⟩) hS (fun q _ h => h) (fun q h => h) (fun r551 u t H locs ht hvm hv hP hz1 hk1 hS => ?_)
    obtain ⟨I549, L550⟩ := u
    dsimp only at hv hP
    rw [ht] at hP
    have hD : mm_DW G I549 L550 := mm_D_any hD
    refine lv_if_eq (tgt := 127) hx hb d_X7_fits_120 (by decide) (fun hc => ?_) (fun hc => ?_)
    · have hv := hv.1 hc
      refine lv_iconst (v := 0) hx hb d_X7_fits_127 (by decide) ?_
      exact W.zret (v := 0) (ty := .boolean) hx hb hr (by decide) (fun t ht hW => ⟨⟨0, (I549, L550), rfl, hv, mm_mv ht hP⟩, hS.F ht⟩) hS.2.2 d_X7_fits_128
    · have hv := hv.2 hc
      refine lv_iconst (v := 1) hx hb d_X7_fits_123 (by decide) ?_
      refine lv_goto (tgt := 128) hx hb d_X7_fits_124 (by decide) ?_
      exact W.zret (v := 1) (ty := .boolean) hx hb hr (by decide) (fun t ht hW => ⟨⟨1, (I549, L550), rfl, hv, mm_mv ht hP⟩, hS.F ht⟩) hS.2.2 d_X7_fits_128
set_option maxHeartbeats 4000000 in
set_option maxRecDepth 100000 in
theorem w_X7_fits_92 {p : Program} {l : Launch} {e : Env} {s : State} {m : MethodId} {args : Array Value} {below : List Frame} {meth : Method} {c : Code} {G : mm_G} (hcx : mm_cx c_X7_fits (some .boolean) 6 RX7 G p s m args meth c) (x3 : Int32) (x4 : Int32) (x5 : Int32) (I : mm_I) (L : mm_L) (Q : Int32 → mm_I → mm_L → Prop)  (hv : vc_X7_fits_92 x3 x4 x5 I L Q) {H : Heap} {locs : List Loc} (hP : mm_PW G I L H) (hD : mm_DW G I L) (hS : va_S G.2.2.2.1 s.heap H locs) {ls : Array Slot} (hl : lv_has ls 6 [(0, .ref (G.2.2.1 36)), (3, .int x3), (4, .int x4), (5, .int x5)]) : W p l e (headSpec w_X7_fits rm_X7_fits).room s m args below meth c H locs 0 0 (MQ below (mm_qi G Q) args s 0 0 G.2.2.2.1) (F0 m 92 ls []) := by
  obtain ⟨hx, hb, hr, hlocks, hml, hown, hg, hK, hC⟩ := id hcx
  unfold vc_X7_fits_92 at hv
  refine lv_iload hx hb d_X7_fits_92 (lv_at hl 3 rfl) ?_
  refine lv_iconst (v := 2) hx hb d_X7_fits_94 (by decide) ?_
  refine lv_iand hx hb d_X7_fits_95 ?_
  refine lv_if_eq (tgt := 107) hx hb d_X7_fits_96 (by decide) (fun hc => ?_) (fun hc => ?_)
  · have hv := hv.1 hc
    exact w_X7_fits_107 hcx x4 x5 I L Q  hv hP hD hS (lv_sub hl [0, 2, 3] rfl)
  · have hv := hv.2 hc
    refine lv_aload_n hx hb d_X7_fits_99 rfl (lv_at hl 0 rfl) ?_
    refine lv_iload_n hx hb d_X7_fits_100 rfl (lv_at hl 1 rfl) ?_
    refine va_calli (va_runV (As := [.int x3]) (rest := []) ⟨hx, hb, hml, hown, hg⟩ (m_X7_isNode l G x3 I L _  hv) (cwV 1 hg (mm_gV k_224 k_225 k_226 k_223 kc_X7_isNode) rfl rfl rfl (by decide +kernel) ⟨Nat.le_of_ble_eq_true rfl, Nat.le_of_ble_eq_true rfl⟩) ⟨mm_blind, mm_recv hK hP (t := 36) (by decide) rfl rfl, fun U hU hW => mm_call hP hK hD hC hU hS hW⟩ rfl rfl hl.1 rfl (lv_room (Nat.le_of_ble_eq_true rfl)) d_X7_fits_101 ⟨Nat.zero_le _, Nat.zero_le _⟩) hS (fun q _ h => h) (fun q h => h) (fun r548 u t H locs ht hvm hv hP hz1 hk1 hS => ?_)
    obtain ⟨I546, L547⟩ := u
    dsimp only at hv hP
    rw [ht] at hP
    have hD : mm_DW G I546 L547 := mm_D_any hD
    refine lv_if_eq (tgt := 127) hx hb d_X7_fits_104 (by decide) (fun hc => ?_) (fun hc => ?_)
    · have hv := hv.1 hc
      refine lv_iconst (v := 0) hx hb d_X7_fits_127 (by decide) ?_
      exact W.zret (v := 0) (ty := .boolean) hx hb hr (by decide) (fun t ht hW => ⟨⟨0, (I546, L547), rfl, hv, mm_mv ht hP⟩, hS.F ht⟩) hS.2.2 d_X7_fits_128
    · have hv := hv.2 hc
      exact w_X7_fits_107 hcx x4 x5 I546 L547 Q  hv hP hD hS (lv_sub hl [0, 2, 3] rfl)
set_option maxHeartbeats 4000000 in
set_option maxRecDepth 100000 in
theorem w_X7_fits_57 {p : Program} {l : Launch} {e : Env} {s : State} {m : MethodId} {args : Array Value} {below : List Frame} {meth : Method} {c : Code} {G : mm_G} (hcx : mm_cx c_X7_fits (some .boolean) 6 RX7 G p s m args meth c) (x1 : Int32) (x2 : Int32) (x3 : Int32) (x4 : Int32) (I : mm_I) (L : mm_L) (Q : Int32 → mm_I → mm_L → Prop)  (hv : vc_X7_fits_57 x1 x2 x3 x4 I L Q) {H : Heap} {locs : List Loc} (hP : mm_PW G I L H) (hD : mm_DW G I L) (hS : va_S G.2.2.2.1 s.heap H locs) {ls : Array Slot} (hl : lv_has ls 6 [(0, .ref (G.2.2.1 36)), (1, .int x1), (2, .int x2), (3, .int x3), (4, .int x4)]) : W p l e (headSpec w_X7_fits rm_X7_fits).room s m args below meth c H locs 0 0 (MQ below (mm_qi G Q) args s 0 0 G.2.2.2.1) (F0 m 57 ls []) := by
  obtain ⟨hx, hb, hr, hlocks, hml, hown, hg, hK, hC⟩ := id hcx
  unfold vc_X7_fits_57 at hv
  refine lv_aload_n hx hb d_X7_fits_57 rfl (lv_at hl 0 rfl) ?_
  refine lv_iload_n hx hb d_X7_fits_58 rfl (lv_at hl 1 rfl) ?_
  refine va_calli (va_runV (As := [.int x1]) (rest := []) ⟨hx, hb, hml, hown, hg⟩ (m_X7_named l G x1 I L _  hv) (cwV 1 hg (mm_gV k_227 k_228 k_229 k_223 kc_X7_named) rfl rfl rfl (by decide +kernel) ⟨Nat.le_of_ble_eq_true rfl, Nat.le_of_ble_eq_true rfl⟩) ⟨mm_blind, mm_recv hK hP (t := 36) (by decide) rfl rfl, fun U hU hW => mm_call hP hK hD hC hU hS hW⟩ rfl rfl hl.1 rfl (lv_room (Nat.le_of_ble_eq_true rfl)) d_X7_fits_59 ⟨Nat.zero_le _, Nat.zero_le _⟩) hS (fun q _ h => h) (fun q h => h) (fun r542 u t H locs ht hvm hv hP hz1 hk1 hS => ?_)
  obtain ⟨I540, L541⟩ := u
  dsimp only at hv hP
  rw [ht] at hP
  have hD : mm_DW G I540 L541 := mm_D_any hD
  refine lv_istore (lv' := [(5, .int r542), (0, .ref (G.2.2.1 36)), (1, .int x1), (2, .int x2), (3, .int x3), (4, .int x4)]) hx hb d_X7_fits_62 hl (by decide) rfl (fun ls hl => ?_)
  refine lv_iload hx hb d_X7_fits_64 (lv_at hl 0 rfl) ?_
  refine lv_iconst (v := 1) hx hb d_X7_fits_66 (by decide) ?_
  refine lv_iand hx hb d_X7_fits_67 ?_
  refine lv_if_eq (tgt := 92) hx hb d_X7_fits_68 (by decide) (fun hc => ?_) (fun hc => ?_)
  · have hv := hv.1 hc
    exact w_X7_fits_92 hcx x3 x4 r542 I540 L541 Q  hv hP hD hS (lv_sub hl [1, 4, 5, 0] rfl)
  · have hv := hv.2 hc
    refine lv_aload_n hx hb d_X7_fits_71 rfl (lv_at hl 1 rfl) ?_
    refine lv_iload_n hx hb d_X7_fits_72 rfl (lv_at hl 3 rfl) ?_
    refine va_calli (va_runV (As := [.int x2]) (rest := []) ⟨hx, hb, hml, hown, hg⟩ (m_X7_isNode l G x2 I540 L541 _  hv) (cwV 1 hg (mm_gV k_224 k_225 k_226 k_223 kc_X7_isNode) rfl rfl rfl (by decide +kernel) ⟨Nat.le_of_ble_eq_true rfl, Nat.le_of_ble_eq_true rfl⟩) ⟨mm_blind, mm_recv hK hP (t := 36) (by decide) rfl rfl, fun U hU hW => mm_call hP hK hD hC hU hS hW⟩ rfl rfl hl.1 rfl (lv_room (Nat.le_of_ble_eq_true rfl)) d_X7_fits_73 ⟨Nat.zero_le _, Nat.zero_le _⟩) hS (fun q _ h => h) (fun q h => h) (fun r545 u t H locs ht hvm hv hP hz1 hk1 hS => ?_)
    obtain ⟨I543, L544⟩ := u
    dsimp only at hv hP
    rw [ht] at hP
    have hD : mm_DW G I543 L544 := mm_D_any hD
    refine lv_if_ne (tgt := 92) hx hb d_X7_fits_76 (by decide) (fun hc => ?_) (fun hc => ?_)
    · have hv := hv.1 hc
      exact w_X7_fits_92 hcx x3 x4 r542 I543 L544 Q  hv hP hD hS (lv_sub hl [1, 4, 5, 0] rfl)
    · have hv := hv.2 hc
      refine lv_iload_n hx hb d_X7_fits_79 rfl (lv_at hl 2 rfl) ?_
      refine lv_bipush (v := 17) hx hb d_X7_fits_80 (by decide) ?_
      refine lv_icmp_ne (tgt := 90) hx hb d_X7_fits_82 (by decide) (fun hc => ?_) (fun hc => ?_)
      · have hv := hv.1 hc
        refine lv_iconst (v := 0) hx hb d_X7_fits_90 (by decide) ?_
        exact W.zret (v := 0) (ty := .boolean) hx hb hr (by decide) (fun t ht hW => ⟨⟨0, (I543, L544), rfl, hv, mm_mv ht hP⟩, hS.F ht⟩) hS.2.2 d_X7_fits_91
      · have hv := hv.2 hc
        refine lv_iload_n hx hb d_X7_fits_85 rfl (lv_at hl 3 rfl) ?_
        refine lv_iconst (v := (-1)) hx hb d_X7_fits_86 (by decide) ?_
        refine lv_icmp_eq (tgt := 92) hx hb d_X7_fits_87 (by decide) (fun hc => ?_) (fun hc => ?_)
        · have hv := hv.1 hc
          exact w_X7_fits_92 hcx x3 x4 r542 I543 L544 Q  hv hP hD hS (lv_sub hl [1, 4, 5, 0] rfl)
        · have hv := hv.2 hc
          refine lv_iconst (v := 0) hx hb d_X7_fits_90 (by decide) ?_
          exact W.zret (v := 0) (ty := .boolean) hx hb hr (by decide) (fun t ht hW => ⟨⟨0, (I543, L544), rfl, hv, mm_mv ht hP⟩, hS.F ht⟩) hS.2.2 d_X7_fits_91
set_option maxHeartbeats 4000000 in
set_option maxRecDepth 100000 in
theorem w_X7_fits_45 {p : Program} {l : Launch} {e : Env} {s : State} {m : MethodId} {args : Array Value} {below : List Frame} {meth : Method} {c : Code} {G : mm_G} (hcx : mm_cx c_X7_fits (some .boolean) 6 RX7 G p s m args meth c) (x1 : Int32) (x2 : Int32) (x3 : Int32) (x4 : Int32) (I : mm_I) (L : mm_L) (Q : Int32 → mm_I → mm_L → Prop)  (hv : vc_X7_fits_45 x1 x2 x3 x4 I L Q) {H : Heap} {locs : List Loc} (hP : mm_PW G I L H) (hD : mm_DW G I L) (hS : va_S G.2.2.2.1 s.heap H locs) {ls : Array Slot} (hl : lv_has ls 6 [(0, .ref (G.2.2.1 36)), (1, .int x1), (2, .int x2), (3, .int x3), (4, .int x4)]) : W p l e (headSpec w_X7_fits rm_X7_fits).room s m args below meth c H locs 0 0 (MQ below (mm_qi G Q) args s 0 0 G.2.2.2.1) (F0 m 45 ls []) := by
  obtain ⟨hx, hb, hr, hlocks, hml, hown, hg, hK, hC⟩ := id hcx
  unfold vc_X7_fits_45 at hv
  refine lv_aload_n hx hb d_X7_fits_45 rfl (lv_at hl 0 rfl) ?_
  refine lv_iload_n hx hb d_X7_fits_46 rfl (lv_at hl 2 rfl) ?_
  refine lv_iconst (v := 0) hx hb d_X7_fits_47 (by decide) ?_
  refine lv_iconst (v := 1) hx hb d_X7_fits_48 (by decide) ?_
  refine va_calli (va_runV (As := [.int x2, .int 0, .int 1]) (rest := []) ⟨hx, hb, hml, hown, hg⟩ (m_X7_out l G x2 0 1 I L _  hv) (cwV 3 hg (mm_gV k_220 k_221 k_222 k_223 kc_X7_out) rfl rfl rfl (by decide +kernel) ⟨Nat.le_of_ble_eq_true rfl, Nat.le_of_ble_eq_true rfl⟩) ⟨mm_blind, mm_recv hK hP (t := 36) (by decide) rfl rfl, fun U hU hW => mm_call hP hK hD hC hU hS hW⟩ rfl rfl hl.1 rfl (lv_room (Nat.le_of_ble_eq_true rfl)) d_X7_fits_49 ⟨Nat.zero_le _, Nat.zero_le _⟩) hS (fun q _ h => h) (fun q h => h) (fun r539 u t H locs ht hvm hv hP hz1 hk1 hS => ?_)
  obtain ⟨I537, L538⟩ := u
  dsimp only at hv hP
  rw [ht] at hP
  have hD : mm_DW G I537 L538 := mm_D_any hD
  refine lv_if_eq (tgt := 57) hx hb d_X7_fits_52 (by decide) (fun hc => ?_) (fun hc => ?_)
  · have hv := hv.1 hc
    exact w_X7_fits_57 hcx x1 x2 x3 x4 I537 L538 Q  hv hP hD hS (lv_sub hl [0, 1, 2, 3, 4] rfl)
  · have hv := hv.2 hc
    refine lv_iconst (v := 0) hx hb d_X7_fits_55 (by decide) ?_
    exact W.zret (v := 0) (ty := .boolean) hx hb hr (by decide) (fun t ht hW => ⟨⟨0, (I537, L538), rfl, hv, mm_mv ht hP⟩, hS.F ht⟩) hS.2.2 d_X7_fits_56
set_option maxHeartbeats 4000000 in
set_option maxRecDepth 100000 in
theorem w_X7_fits_34 {p : Program} {l : Launch} {e : Env} {s : State} {m : MethodId} {args : Array Value} {below : List Frame} {meth : Method} {c : Code} {G : mm_G} (hcx : mm_cx c_X7_fits (some .boolean) 6 RX7 G p s m args meth c) (x1 : Int32) (x2 : Int32) (x3 : Int32) (x4 : Int32) (I : mm_I) (L : mm_L) (Q : Int32 → mm_I → mm_L → Prop)  (hv : vc_X7_fits_34 x1 x2 x3 x4 I L Q) {H : Heap} {locs : List Loc} (hP : mm_PW G I L H) (hD : mm_DW G I L) (hS : va_S G.2.2.2.1 s.heap H locs) {ls : Array Slot} (hl : lv_has ls 6 [(0, .ref (G.2.2.1 36)), (1, .int x1), (2, .int x2), (3, .int x3), (4, .int x4)]) : W p l e (headSpec w_X7_fits rm_X7_fits).room s m args below meth c H locs 0 0 (MQ below (mm_qi G Q) args s 0 0 G.2.2.2.1) (F0 m 34 ls []) := by
  obtain ⟨hx, hb, hr, hlocks, hml, hown, hg, hK, hC⟩ := id hcx
  unfold vc_X7_fits_34 at hv
  refine lv_iload_n hx hb d_X7_fits_34 rfl (lv_at hl 1 rfl) ?_
  refine lv_iconst (v := 3) hx hb d_X7_fits_35 (by decide) ?_
  refine lv_icmp_eq (tgt := 45) hx hb d_X7_fits_36 (by decide) (fun hc => ?_) (fun hc => ?_)
  · have hv := hv.1 hc
    exact w_X7_fits_45 hcx x1 x2 x3 x4 I L Q  hv hP hD hS (lv_sub hl [0, 1, 2, 3, 4] rfl)
  · have hv := hv.2 hc
    refine lv_iload_n hx hb d_X7_fits_39 rfl (lv_at hl 1 rfl) ?_
    refine lv_bipush (v := 19) hx hb d_X7_fits_40 (by decide) ?_
    refine lv_icmp_ne (tgt := 57) hx hb d_X7_fits_42 (by decide) (fun hc => ?_) (fun hc => ?_)
    · have hv := hv.1 hc
      exact w_X7_fits_57 hcx x1 x2 x3 x4 I L Q  hv hP hD hS (lv_sub hl [0, 1, 2, 3, 4] rfl)
    · have hv := hv.2 hc
      exact w_X7_fits_45 hcx x1 x2 x3 x4 I L Q  hv hP hD hS (lv_sub hl [0, 1, 2, 3, 4] rfl)
set_option maxHeartbeats 4000000 in
set_option maxRecDepth 100000 in
theorem w_X7_fits_23 {p : Program} {l : Launch} {e : Env} {s : State} {m : MethodId} {args : Array Value} {below : List Frame} {meth : Method} {c : Code} {G : mm_G} (hcx : mm_cx c_X7_fits (some .boolean) 6 RX7 G p s m args meth c) (x1 : Int32) (x2 : Int32) (x3 : Int32) (x4 : Int32) (I : mm_I) (L : mm_L) (Q : Int32 → mm_I → mm_L → Prop)  (hv : vc_X7_fits_23 x1 x2 x3 x4 I L Q) {H : Heap} {locs : List Loc} (hP : mm_PW G I L H) (hD : mm_DW G I L) (hS : va_S G.2.2.2.1 s.heap H locs) {ls : Array Slot} (hl : lv_has ls 6 [(0, .ref (G.2.2.1 36)), (1, .int x1), (2, .int x2), (3, .int x3), (4, .int x4)]) : W p l e (headSpec w_X7_fits rm_X7_fits).room s m args below meth c H locs 0 0 (MQ below (mm_qi G Q) args s 0 0 G.2.2.2.1) (F0 m 23 ls []) := by
  obtain ⟨hx, hb, hr, hlocks, hml, hown, hg, hK, hC⟩ := id hcx
  unfold vc_X7_fits_23 at hv
  refine lv_aload_n hx hb d_X7_fits_23 rfl (lv_at hl 0 rfl) ?_
  refine lv_iload_n hx hb d_X7_fits_24 rfl (lv_at hl 2 rfl) ?_
  refine lv_iconst (v := 0) hx hb d_X7_fits_25 (by decide) ?_
  refine lv_bipush (v := 7) hx hb d_X7_fits_26 (by decide) ?_
  refine va_calli (va_runV (As := [.int x2, .int 0, .int 7]) (rest := []) ⟨hx, hb, hml, hown, hg⟩ (m_X7_out l G x2 0 7 I L _  hv) (cwV 3 hg (mm_gV k_220 k_221 k_222 k_223 kc_X7_out) rfl rfl rfl (by decide +kernel) ⟨Nat.le_of_ble_eq_true rfl, Nat.le_of_ble_eq_true rfl⟩) ⟨mm_blind, mm_recv hK hP (t := 36) (by decide) rfl rfl, fun U hU hW => mm_call hP hK hD hC hU hS hW⟩ rfl rfl hl.1 rfl (lv_room (Nat.le_of_ble_eq_true rfl)) d_X7_fits_28 ⟨Nat.zero_le _, Nat.zero_le _⟩) hS (fun q _ h => h) (fun q h => h) (fun r536 u t H locs ht hvm hv hP hz1 hk1 hS => ?_)
  obtain ⟨I534, L535⟩ := u
  dsimp only at hv hP
  rw [ht] at hP
  have hD : mm_DW G I534 L535 := mm_D_any hD
  refine lv_if_ne (tgt := 55) hx hb d_X7_fits_31 (by decide) (fun hc => ?_) (fun hc => ?_)
  · have hv := hv.1 hc
    refine lv_iconst (v := 0) hx hb d_X7_fits_55 (by decide) ?_
    exact W.zret (v := 0) (ty := .boolean) hx hb hr (by decide) (fun t ht hW => ⟨⟨0, (I534, L535), rfl, hv, mm_mv ht hP⟩, hS.F ht⟩) hS.2.2 d_X7_fits_56
  · have hv := hv.2 hc
    exact w_X7_fits_34 hcx x1 x2 x3 x4 I534 L535 Q  hv hP hD hS (lv_sub hl [0, 1, 2, 3, 4] rfl)
set_option maxHeartbeats 4000000 in
set_option maxRecDepth 100000 in
theorem w_X7_fits_0 {p : Program} {l : Launch} {e : Env} {s : State} {m : MethodId} {args : Array Value} {below : List Frame} {meth : Method} {c : Code} {G : mm_G} (hcx : mm_cx c_X7_fits (some .boolean) 6 RX7 G p s m args meth c) (x1 : Int32) (x2 : Int32) (x3 : Int32) (x4 : Int32) (I : mm_I) (L : mm_L) (Q : Int32 → mm_I → mm_L → Prop)  (hv : vc_X7_fits_0 x1 x2 x3 x4 I L Q) {H : Heap} {locs : List Loc} (hP : mm_PW G I L H) (hD : mm_DW G I L) (hS : va_S G.2.2.2.1 s.heap H locs) {ls : Array Slot} (hl : lv_has ls 6 [(0, .ref (G.2.2.1 36)), (1, .int x1), (2, .int x2), (3, .int x3), (4, .int x4)]) : W p l e (headSpec w_X7_fits rm_X7_fits).room s m args below meth c H locs 0 0 (MQ below (mm_qi G Q) args s 0 0 G.2.2.2.1) (F0 m 0 ls []) := by
  obtain ⟨hx, hb, hr, hlocks, hml, hown, hg, hK, hC⟩ := id hcx
  unfold vc_X7_fits_0 at hv
  refine lv_aload_n hx hb d_X7_fits_0 rfl (lv_at hl 0 rfl) ?_
  refine lv_iload_n hx hb d_X7_fits_1 rfl (lv_at hl 1 rfl) ?_
  refine lv_iconst (v := 0) hx hb d_X7_fits_2 (by decide) ?_
  refine lv_bipush (v := 19) hx hb d_X7_fits_3 (by decide) ?_
  refine va_calli (va_runV (As := [.int x1, .int 0, .int 19]) (rest := []) ⟨hx, hb, hml, hown, hg⟩ (m_X7_out l G x1 0 19 I L _  hv) (cwV 3 hg (mm_gV k_220 k_221 k_222 k_223 kc_X7_out) rfl rfl rfl (by decide +kernel) ⟨Nat.le_of_ble_eq_true rfl, Nat.le_of_ble_eq_true rfl⟩) ⟨mm_blind, mm_recv hK hP (t := 36) (by decide) rfl rfl, fun U hU hW => mm_call hP hK hD hC hU hS hW⟩ rfl rfl hl.1 rfl (lv_room (Nat.le_of_ble_eq_true rfl)) d_X7_fits_5 ⟨Nat.zero_le _, Nat.zero_le _⟩) hS (fun q _ h => h) (fun q h => h) (fun r533 u t H locs ht hvm hv hP hz1 hk1 hS => ?_)
  obtain ⟨I531, L532⟩ := u
  dsimp only at hv hP
  rw [ht] at hP
  have hD : mm_DW G I531 L532 := mm_D_any hD
  refine lv_if_eq (tgt := 13) hx hb d_X7_fits_8 (by decide) (fun hc => ?_) (fun hc => ?_)
  · have hv := hv.1 hc
    refine lv_iload_n hx hb d_X7_fits_13 rfl (lv_at hl 1 rfl) ?_
    refine lv_iconst (v := 1) hx hb d_X7_fits_14 (by decide) ?_
    refine lv_icmp_eq (tgt := 23) hx hb d_X7_fits_15 (by decide) (fun hc => ?_) (fun hc => ?_)
    · have hv := hv.1 hc
      exact w_X7_fits_23 hcx x1 x2 x3 x4 I531 L532 Q  hv hP hD hS (lv_sub hl [0, 1, 2, 3, 4] rfl)
    · have hv := hv.2 hc
      refine lv_iload_n hx hb d_X7_fits_18 rfl (lv_at hl 1 rfl) ?_
      refine lv_iconst (v := 2) hx hb d_X7_fits_19 (by decide) ?_
      refine lv_icmp_ne (tgt := 34) hx hb d_X7_fits_20 (by decide) (fun hc => ?_) (fun hc => ?_)
      · have hv := hv.1 hc
        exact w_X7_fits_34 hcx x1 x2 x3 x4 I531 L532 Q  hv hP hD hS (lv_sub hl [0, 1, 2, 3, 4] rfl)
      · have hv := hv.2 hc
        exact w_X7_fits_23 hcx x1 x2 x3 x4 I531 L532 Q  hv hP hD hS (lv_sub hl [0, 1, 2, 3, 4] rfl)
  · have hv := hv.2 hc
    refine lv_iconst (v := 0) hx hb d_X7_fits_11 (by decide) ?_
    exact W.zret (v := 0) (ty := .boolean) hx hb hr (by decide) (fun t ht hW => ⟨⟨0, (I531, L532), rfl, hv, mm_mv ht hP⟩, hS.F ht⟩) hS.2.2 d_X7_fits_12
abbrev vc_X7_fits (x1 : Int32) (x2 : Int32) (x3 : Int32) (x4 : Int32) (I : mm_I) (L : mm_L) (Q : Int32 → mm_I → mm_L → Prop) : Prop := vc_X7_fits_0 x1 x2 x3 x4 I L Q
set_option maxHeartbeats 4000000 in
set_option maxRecDepth 100000 in
theorem m_X7_fits (l : Launch) (G : mm_G) (x1 : Int32) (x2 : Int32) (x3 : Int32) (x4 : Int32) (I : mm_I) (L : mm_L) (Q : Int32 → mm_I → mm_L → Prop)  (hv : vc_X7_fits x1 x2 x3 x4 I L Q) : Met l y_X7_fits w_X7_fits rm_X7_fits (mm_pre G [.ref (G.2.2.1 36), .int x1, .int x2, .int x3, .int x4] I L) (mm_qi G Q) 0 0 G.2.2.2.1 := by
  refine Met.ofW (cc := c_X7_fits) (maxL := 6) (ret := (some .boolean)) (by decide) rfl ?_
  intro p e s m args below meth c s₁ B hml hw
  obtain ⟨rfl, hP, hK, hD, hC⟩ := hw
  have hts := atoms_spec (ws := w_X7_fits) B.pre
  have hown : s.vm.findClass RX7 = some m.cls := findClass_of_methodNamed B.named
  have hl := lv_entry ([.ref (G.2.2.1 36), .int x1, .int x2, .int x3, .int x4]) (n := 6) (Nat.le_of_ble_eq_true rfl)
  rw [lg_entry_eq]
  generalize (lg_sl ([.ref (G.2.2.1 36), .int x1, .int x2, .int x3, .int x4]) ++ List.replicate (6 - (lg_sl ([.ref (G.2.2.1 36), .int x1, .int x2, .int x3, .int x4])).length) Slot.unset).toArray = ls at hl ⊢
  have hl : lv_has ls 6 [(0, .ref (G.2.2.1 36)), (1, .int x1), (2, .int x2), (3, .int x3), (4, .int x4)] := hl
  exact w_X7_fits_0 ⟨B.exec, B.bytes, B.returns, B.notSynchronized, hml, hown, fun w h => hts w (List.mem_cons_of_mem _ h), hK, hC⟩ x1 x2 x3 x4 I L Q  hv hP hD va_S.rf hl
abbrev rm_X7_high : Room := { frames := 0, cells := 0, slots := 0, locals := 0 }
def vc_X7_high_0 (x1 : Int32) (x2 : Int32) (x3 : Int32) (I : mm_I) (L : mm_L) (Q : Int32 → mm_I → mm_L → Prop) : Prop :=
  (x2 = 0 → Q x1 I L) ∧ (¬ x2 = 0 → (x3 ≤ x1 → Q x1 I L) ∧ (¬ x3 ≤ x1 → Q x3 I L))
set_option maxHeartbeats 4000000 in
set_option maxRecDepth 100000 in
theorem w_X7_high_0 {p : Program} {l : Launch} {e : Env} {s : State} {m : MethodId} {args : Array Value} {below : List Frame} {meth : Method} {c : Code} {G : mm_G} (hcx : mm_cx c_X7_high (some .int) 4 RX7 G p s m args meth c) (x1 : Int32) (x2 : Int32) (x3 : Int32) (I : mm_I) (L : mm_L) (Q : Int32 → mm_I → mm_L → Prop)  (hv : vc_X7_high_0 x1 x2 x3 I L Q) {H : Heap} {locs : List Loc} (hP : mm_PW G I L H) (hD : mm_DW G I L) (hS : va_S G.2.2.2.1 s.heap H locs) {ls : Array Slot} (hl : lv_has ls 4 [(0, .ref (G.2.2.1 36)), (1, .int x1), (2, .int x2), (3, .int x3)]) : W p l e (headSpec w_X7_high rm_X7_high).room s m args below meth c H locs 0 0 (MQ below (mm_qi G Q) args s 0 0 G.2.2.2.1) (F0 m 0 ls []) := by
  obtain ⟨hx, hb, hr, hlocks, hml, hown, hg, hK, hC⟩ := id hcx
  unfold vc_X7_high_0 at hv
  refine lv_iload_n hx hb d_X7_high_0 rfl (lv_at hl 2 rfl) ?_
  refine lv_if_eq (tgt := 13) hx hb d_X7_high_1 (by decide) (fun hc => ?_) (fun hc => ?_)
  · have hv := hv.1 hc
    refine lv_iload_n hx hb d_X7_high_13 rfl (lv_at hl 1 rfl) ?_
    exact W.iret (v := x1) hx hb hr (fun t ht hW => ⟨⟨x1, (I, L), rfl, hv, mm_mv ht hP⟩, hS.F ht⟩) hS.2.2 d_X7_high_14
  · have hv := hv.2 hc
    refine lv_iload_n hx hb d_X7_high_4 rfl (lv_at hl 3 rfl) ?_
    refine lv_iload_n hx hb d_X7_high_5 rfl (lv_at hl 1 rfl) ?_
    refine lv_icmp_le (tgt := 13) hx hb d_X7_high_6 (by decide) (fun hc => ?_) (fun hc => ?_)
    · have hv := hv.1 hc
      refine lv_iload_n hx hb d_X7_high_13 rfl (lv_at hl 1 rfl) ?_
      exact W.iret (v := x1) hx hb hr (fun t ht hW => ⟨⟨x1, (I, L), rfl, hv, mm_mv ht hP⟩, hS.F ht⟩) hS.2.2 d_X7_high_14
    · have hv := hv.2 hc
      refine lv_iload_n hx hb d_X7_high_9 rfl (lv_at hl 3 rfl) ?_
      refine lv_goto (tgt := 14) hx hb d_X7_high_10 (by decide) ?_
      exact W.iret (v := x3) hx hb hr (fun t ht hW => ⟨⟨x3, (I, L), rfl, hv, mm_mv ht hP⟩, hS.F ht⟩) hS.2.2 d_X7_high_14
abbrev vc_X7_high (x1 : Int32) (x2 : Int32) (x3 : Int32) (I : mm_I) (L : mm_L) (Q : Int32 → mm_I → mm_L → Prop) : Prop := vc_X7_high_0 x1 x2 x3 I L Q
set_option maxHeartbeats 4000000 in
set_option maxRecDepth 100000 in
theorem m_X7_high (l : Launch) (G : mm_G) (x1 : Int32) (x2 : Int32) (x3 : Int32) (I : mm_I) (L : mm_L) (Q : Int32 → mm_I → mm_L → Prop)  (hv : vc_X7_high x1 x2 x3 I L Q) : Met l y_X7_high w_X7_high rm_X7_high (mm_pre G [.ref (G.2.2.1 36), .int x1, .int x2, .int x3] I L) (mm_qi G Q) 0 0 G.2.2.2.1 := by
  refine Met.ofW (cc := c_X7_high) (maxL := 4) (ret := (some .int)) (by decide) rfl ?_
  intro p e s m args below meth c s₁ B hml hw
  obtain ⟨rfl, hP, hK, hD, hC⟩ := hw
  have hts := atoms_spec (ws := w_X7_high) B.pre
  have hown : s.vm.findClass RX7 = some m.cls := findClass_of_methodNamed B.named
  have hl := lv_entry ([.ref (G.2.2.1 36), .int x1, .int x2, .int x3]) (n := 4) (Nat.le_of_ble_eq_true rfl)
  rw [lg_entry_eq]
  generalize (lg_sl ([.ref (G.2.2.1 36), .int x1, .int x2, .int x3]) ++ List.replicate (4 - (lg_sl ([.ref (G.2.2.1 36), .int x1, .int x2, .int x3])).length) Slot.unset).toArray = ls at hl ⊢
  have hl : lv_has ls 4 [(0, .ref (G.2.2.1 36)), (1, .int x1), (2, .int x2), (3, .int x3)] := hl
  exact w_X7_high_0 ⟨B.exec, B.bytes, B.returns, B.notSynchronized, hml, hown, fun w h => hts w (List.mem_cons_of_mem _ h), hK, hC⟩ x1 x2 x3 I L Q  hv hP hD va_S.rf hl
abbrev rm_X7_node : Room := { frames := 2, cells := 0, slots := 0, locals := 48 }
def vc_X7_node_231 (x1 : Int32) (x2 : Int32) (x3 : Int32) (x4 : Int32) (x6 : Int32) (xs0 : Int32) (xs1 : Int32) (xs2 : Int32) (I : mm_I) (L : mm_L) (Q : Int32 → mm_I → mm_L → Prop) : Prop :=
  vc_X7_high xs2 xs1 xs0 I L (fun r581 I579 L580 => (¬ x6 = 10 → (¬ (I579 36 0) = 70 → vp_in (I579 36 0) 70 ∧ vp_in ((mm_uI I579 37 ((I579 36 0)).toNatClampNeg x1) 36 0) 70 ∧ vp_in ((mm_uI (mm_uI I579 37 ((I579 36 0)).toNatClampNeg x1) 38 (((mm_uI I579 37 ((I579 36 0)).toNatClampNeg x1) 36 0)).toNatClampNeg x2) 36 0) 70 ∧ vp_in ((mm_uI (mm_uI (mm_uI I579 37 ((I579 36 0)).toNatClampNeg x1) 38 (((mm_uI I579 37 ((I579 36 0)).toNatClampNeg x1) 36 0)).toNatClampNeg x2) 39 (((mm_uI (mm_uI I579 37 ((I579 36 0)).toNatClampNeg x1) 38 (((mm_uI I579 37 ((I579 36 0)).toNatClampNeg x1) 36 0)).toNatClampNeg x2) 36 0)).toNatClampNeg x3) 36 0) 70 ∧ vp_in ((mm_uI (mm_uI (mm_uI (mm_uI I579 37 ((I579 36 0)).toNatClampNeg x1) 38 (((mm_uI I579 37 ((I579 36 0)).toNatClampNeg x1) 36 0)).toNatClampNeg x2) 39 (((mm_uI (mm_uI I579 37 ((I579 36 0)).toNatClampNeg x1) 38 (((mm_uI I579 37 ((I579 36 0)).toNatClampNeg x1) 36 0)).toNatClampNeg x2) 36 0)).toNatClampNeg x3) 40 (((mm_uI (mm_uI (mm_uI I579 37 ((I579 36 0)).toNatClampNeg x1) 38 (((mm_uI I579 37 ((I579 36 0)).toNatClampNeg x1) 36 0)).toNatClampNeg x2) 39 (((mm_uI (mm_uI I579 37 ((I579 36 0)).toNatClampNeg x1) 38 (((mm_uI I579 37 ((I579 36 0)).toNatClampNeg x1) 36 0)).toNatClampNeg x2) 36 0)).toNatClampNeg x3) 36 0)).toNatClampNeg x4) 36 0) 70 ∧ vp_in ((mm_uI (mm_uI (mm_uI (mm_uI (mm_uI I579 37 ((I579 36 0)).toNatClampNeg x1) 38 (((mm_uI I579 37 ((I579 36 0)).toNatClampNeg x1) 36 0)).toNatClampNeg x2) 39 (((mm_uI (mm_uI I579 37 ((I579 36 0)).toNatClampNeg x1) 38 (((mm_uI I579 37 ((I579 36 0)).toNatClampNeg x1) 36 0)).toNatClampNeg x2) 36 0)).toNatClampNeg x3) 40 (((mm_uI (mm_uI (mm_uI I579 37 ((I579 36 0)).toNatClampNeg x1) 38 (((mm_uI I579 37 ((I579 36 0)).toNatClampNeg x1) 36 0)).toNatClampNeg x2) 39 (((mm_uI (mm_uI I579 37 ((I579 36 0)).toNatClampNeg x1) 38 (((mm_uI I579 37 ((I579 36 0)).toNatClampNeg x1) 36 0)).toNatClampNeg x2) 36 0)).toNatClampNeg x3) 36 0)).toNatClampNeg x4) 41 (((mm_uI (mm_uI (mm_uI (mm_uI I579 37 ((I579 36 0)).toNatClampNeg x1) 38 (((mm_uI I579 37 ((I579 36 0)).toNatClampNeg x1) 36 0)).toNatClampNeg x2) 39 (((mm_uI (mm_uI I579 37 ((I579 36 0)).toNatClampNeg x1) 38 (((mm_uI I579 37 ((I579 36 0)).toNatClampNeg x1) 36 0)).toNatClampNeg x2) 36 0)).toNatClampNeg x3) 40 (((mm_uI (mm_uI (mm_uI I579 37 ((I579 36 0)).toNatClampNeg x1) 38 (((mm_uI I579 37 ((I579 36 0)).toNatClampNeg x1) 36 0)).toNatClampNeg x2) 39 (((mm_uI (mm_uI I579 37 ((I579 36 0)).toNatClampNeg x1) 38 (((mm_uI I579 37 ((I579 36 0)).toNatClampNeg x1) 36 0)).toNatClampNeg x2) 36 0)).toNatClampNeg x3) 36 0)).toNatClampNeg x4) 36 0)).toNatClampNeg (x6 + 1)) 36 0) 70 ∧ Q (((mm_uI (mm_uI (mm_uI (mm_uI (mm_uI (mm_uI (mm_uI I579 37 ((I579 36 0)).toNatClampNeg x1) 38 (((mm_uI I579 37 ((I579 36 0)).toNatClampNeg x1) 36 0)).toNatClampNeg x2) 39 (((mm_uI (mm_uI I579 37 ((I579 36 0)).toNatClampNeg x1) 38 (((mm_uI I579 37 ((I579 36 0)).toNatClampNeg x1) 36 0)).toNatClampNeg x2) 36 0)).toNatClampNeg x3) 40 (((mm_uI (mm_uI (mm_uI I579 37 ((I579 36 0)).toNatClampNeg x1) 38 (((mm_uI I579 37 ((I579 36 0)).toNatClampNeg x1) 36 0)).toNatClampNeg x2) 39 (((mm_uI (mm_uI I579 37 ((I579 36 0)).toNatClampNeg x1) 38 (((mm_uI I579 37 ((I579 36 0)).toNatClampNeg x1) 36 0)).toNatClampNeg x2) 36 0)).toNatClampNeg x3) 36 0)).toNatClampNeg x4) 41 (((mm_uI (mm_uI (mm_uI (mm_uI I579 37 ((I579 36 0)).toNatClampNeg x1) 38 (((mm_uI I579 37 ((I579 36 0)).toNatClampNeg x1) 36 0)).toNatClampNeg x2) 39 (((mm_uI (mm_uI I579 37 ((I579 36 0)).toNatClampNeg x1) 38 (((mm_uI I579 37 ((I579 36 0)).toNatClampNeg x1) 36 0)).toNatClampNeg x2) 36 0)).toNatClampNeg x3) 40 (((mm_uI (mm_uI (mm_uI I579 37 ((I579 36 0)).toNatClampNeg x1) 38 (((mm_uI I579 37 ((I579 36 0)).toNatClampNeg x1) 36 0)).toNatClampNeg x2) 39 (((mm_uI (mm_uI I579 37 ((I579 36 0)).toNatClampNeg x1) 38 (((mm_uI I579 37 ((I579 36 0)).toNatClampNeg x1) 36 0)).toNatClampNeg x2) 36 0)).toNatClampNeg x3) 36 0)).toNatClampNeg x4) 36 0)).toNatClampNeg (x6 + 1)) 42 (((mm_uI (mm_uI (mm_uI (mm_uI (mm_uI I579 37 ((I579 36 0)).toNatClampNeg x1) 38 (((mm_uI I579 37 ((I579 36 0)).toNatClampNeg x1) 36 0)).toNatClampNeg x2) 39 (((mm_uI (mm_uI I579 37 ((I579 36 0)).toNatClampNeg x1) 38 (((mm_uI I579 37 ((I579 36 0)).toNatClampNeg x1) 36 0)).toNatClampNeg x2) 36 0)).toNatClampNeg x3) 40 (((mm_uI (mm_uI (mm_uI I579 37 ((I579 36 0)).toNatClampNeg x1) 38 (((mm_uI I579 37 ((I579 36 0)).toNatClampNeg x1) 36 0)).toNatClampNeg x2) 39 (((mm_uI (mm_uI I579 37 ((I579 36 0)).toNatClampNeg x1) 38 (((mm_uI I579 37 ((I579 36 0)).toNatClampNeg x1) 36 0)).toNatClampNeg x2) 36 0)).toNatClampNeg x3) 36 0)).toNatClampNeg x4) 41 (((mm_uI (mm_uI (mm_uI (mm_uI I579 37 ((I579 36 0)).toNatClampNeg x1) 38 (((mm_uI I579 37 ((I579 36 0)).toNatClampNeg x1) 36 0)).toNatClampNeg x2) 39 (((mm_uI (mm_uI I579 37 ((I579 36 0)).toNatClampNeg x1) 38 (((mm_uI I579 37 ((I579 36 0)).toNatClampNeg x1) 36 0)).toNatClampNeg x2) 36 0)).toNatClampNeg x3) 40 (((mm_uI (mm_uI (mm_uI I579 37 ((I579 36 0)).toNatClampNeg x1) 38 (((mm_uI I579 37 ((I579 36 0)).toNatClampNeg x1) 36 0)).toNatClampNeg x2) 39 (((mm_uI (mm_uI I579 37 ((I579 36 0)).toNatClampNeg x1) 38 (((mm_uI I579 37 ((I579 36 0)).toNatClampNeg x1) 36 0)).toNatClampNeg x2) 36 0)).toNatClampNeg x3) 36 0)).toNatClampNeg x4) 36 0)).toNatClampNeg (x6 + 1)) 36 0)).toNatClampNeg r581) 36 0 (((mm_uI (mm_uI (mm_uI (mm_uI (mm_uI (mm_uI I579 37 ((I579 36 0)).toNatClampNeg x1) 38 (((mm_uI I579 37 ((I579 36 0)).toNatClampNeg x1) 36 0)).toNatClampNeg x2) 39 (((mm_uI (mm_uI I579 37 ((I579 36 0)).toNatClampNeg x1) 38 (((mm_uI I579 37 ((I579 36 0)).toNatClampNeg x1) 36 0)).toNatClampNeg x2) 36 0)).toNatClampNeg x3) 40 (((mm_uI (mm_uI (mm_uI I579 37 ((I579 36 0)).toNatClampNeg x1) 38 (((mm_uI I579 37 ((I579 36 0)).toNatClampNeg x1) 36 0)).toNatClampNeg x2) 39 (((mm_uI (mm_uI I579 37 ((I579 36 0)).toNatClampNeg x1) 38 (((mm_uI I579 37 ((I579 36 0)).toNatClampNeg x1) 36 0)).toNatClampNeg x2) 36 0)).toNatClampNeg x3) 36 0)).toNatClampNeg x4) 41 (((mm_uI (mm_uI (mm_uI (mm_uI I579 37 ((I579 36 0)).toNatClampNeg x1) 38 (((mm_uI I579 37 ((I579 36 0)).toNatClampNeg x1) 36 0)).toNatClampNeg x2) 39 (((mm_uI (mm_uI I579 37 ((I579 36 0)).toNatClampNeg x1) 38 (((mm_uI I579 37 ((I579 36 0)).toNatClampNeg x1) 36 0)).toNatClampNeg x2) 36 0)).toNatClampNeg x3) 40 (((mm_uI (mm_uI (mm_uI I579 37 ((I579 36 0)).toNatClampNeg x1) 38 (((mm_uI I579 37 ((I579 36 0)).toNatClampNeg x1) 36 0)).toNatClampNeg x2) 39 (((mm_uI (mm_uI I579 37 ((I579 36 0)).toNatClampNeg x1) 38 (((mm_uI I579 37 ((I579 36 0)).toNatClampNeg x1) 36 0)).toNatClampNeg x2) 36 0)).toNatClampNeg x3) 36 0)).toNatClampNeg x4) 36 0)).toNatClampNeg (x6 + 1)) 42 (((mm_uI (mm_uI (mm_uI (mm_uI (mm_uI I579 37 ((I579 36 0)).toNatClampNeg x1) 38 (((mm_uI I579 37 ((I579 36 0)).toNatClampNeg x1) 36 0)).toNatClampNeg x2) 39 (((mm_uI (mm_uI I579 37 ((I579 36 0)).toNatClampNeg x1) 38 (((mm_uI I579 37 ((I579 36 0)).toNatClampNeg x1) 36 0)).toNatClampNeg x2) 36 0)).toNatClampNeg x3) 40 (((mm_uI (mm_uI (mm_uI I579 37 ((I579 36 0)).toNatClampNeg x1) 38 (((mm_uI I579 37 ((I579 36 0)).toNatClampNeg x1) 36 0)).toNatClampNeg x2) 39 (((mm_uI (mm_uI I579 37 ((I579 36 0)).toNatClampNeg x1) 38 (((mm_uI I579 37 ((I579 36 0)).toNatClampNeg x1) 36 0)).toNatClampNeg x2) 36 0)).toNatClampNeg x3) 36 0)).toNatClampNeg x4) 41 (((mm_uI (mm_uI (mm_uI (mm_uI I579 37 ((I579 36 0)).toNatClampNeg x1) 38 (((mm_uI I579 37 ((I579 36 0)).toNatClampNeg x1) 36 0)).toNatClampNeg x2) 39 (((mm_uI (mm_uI I579 37 ((I579 36 0)).toNatClampNeg x1) 38 (((mm_uI I579 37 ((I579 36 0)).toNatClampNeg x1) 36 0)).toNatClampNeg x2) 36 0)).toNatClampNeg x3) 40 (((mm_uI (mm_uI (mm_uI I579 37 ((I579 36 0)).toNatClampNeg x1) 38 (((mm_uI I579 37 ((I579 36 0)).toNatClampNeg x1) 36 0)).toNatClampNeg x2) 39 (((mm_uI (mm_uI I579 37 ((I579 36 0)).toNatClampNeg x1) 38 (((mm_uI I579 37 ((I579 36 0)).toNatClampNeg x1) 36 0)).toNatClampNeg x2) 36 0)).toNatClampNeg x3) 36 0)).toNatClampNeg x4) 36 0)).toNatClampNeg (x6 + 1)) 36 0)).toNatClampNeg r581) 36 0) + 1)) 36 0) - 1) (mm_uI (mm_uI (mm_uI (mm_uI (mm_uI (mm_uI (mm_uI I579 37 ((I579 36 0)).toNatClampNeg x1) 38 (((mm_uI I579 37 ((I579 36 0)).toNatClampNeg x1) 36 0)).toNatClampNeg x2) 39 (((mm_uI (mm_uI I579 37 ((I579 36 0)).toNatClampNeg x1) 38 (((mm_uI I579 37 ((I579 36 0)).toNatClampNeg x1) 36 0)).toNatClampNeg x2) 36 0)).toNatClampNeg x3) 40 (((mm_uI (mm_uI (mm_uI I579 37 ((I579 36 0)).toNatClampNeg x1) 38 (((mm_uI I579 37 ((I579 36 0)).toNatClampNeg x1) 36 0)).toNatClampNeg x2) 39 (((mm_uI (mm_uI I579 37 ((I579 36 0)).toNatClampNeg x1) 38 (((mm_uI I579 37 ((I579 36 0)).toNatClampNeg x1) 36 0)).toNatClampNeg x2) 36 0)).toNatClampNeg x3) 36 0)).toNatClampNeg x4) 41 (((mm_uI (mm_uI (mm_uI (mm_uI I579 37 ((I579 36 0)).toNatClampNeg x1) 38 (((mm_uI I579 37 ((I579 36 0)).toNatClampNeg x1) 36 0)).toNatClampNeg x2) 39 (((mm_uI (mm_uI I579 37 ((I579 36 0)).toNatClampNeg x1) 38 (((mm_uI I579 37 ((I579 36 0)).toNatClampNeg x1) 36 0)).toNatClampNeg x2) 36 0)).toNatClampNeg x3) 40 (((mm_uI (mm_uI (mm_uI I579 37 ((I579 36 0)).toNatClampNeg x1) 38 (((mm_uI I579 37 ((I579 36 0)).toNatClampNeg x1) 36 0)).toNatClampNeg x2) 39 (((mm_uI (mm_uI I579 37 ((I579 36 0)).toNatClampNeg x1) 38 (((mm_uI I579 37 ((I579 36 0)).toNatClampNeg x1) 36 0)).toNatClampNeg x2) 36 0)).toNatClampNeg x3) 36 0)).toNatClampNeg x4) 36 0)).toNatClampNeg (x6 + 1)) 42 (((mm_uI (mm_uI (mm_uI (mm_uI (mm_uI I579 37 ((I579 36 0)).toNatClampNeg x1) 38 (((mm_uI I579 37 ((I579 36 0)).toNatClampNeg x1) 36 0)).toNatClampNeg x2) 39 (((mm_uI (mm_uI I579 37 ((I579 36 0)).toNatClampNeg x1) 38 (((mm_uI I579 37 ((I579 36 0)).toNatClampNeg x1) 36 0)).toNatClampNeg x2) 36 0)).toNatClampNeg x3) 40 (((mm_uI (mm_uI (mm_uI I579 37 ((I579 36 0)).toNatClampNeg x1) 38 (((mm_uI I579 37 ((I579 36 0)).toNatClampNeg x1) 36 0)).toNatClampNeg x2) 39 (((mm_uI (mm_uI I579 37 ((I579 36 0)).toNatClampNeg x1) 38 (((mm_uI I579 37 ((I579 36 0)).toNatClampNeg x1) 36 0)).toNatClampNeg x2) 36 0)).toNatClampNeg x3) 36 0)).toNatClampNeg x4) 41 (((mm_uI (mm_uI (mm_uI (mm_uI I579 37 ((I579 36 0)).toNatClampNeg x1) 38 (((mm_uI I579 37 ((I579 36 0)).toNatClampNeg x1) 36 0)).toNatClampNeg x2) 39 (((mm_uI (mm_uI I579 37 ((I579 36 0)).toNatClampNeg x1) 38 (((mm_uI I579 37 ((I579 36 0)).toNatClampNeg x1) 36 0)).toNatClampNeg x2) 36 0)).toNatClampNeg x3) 40 (((mm_uI (mm_uI (mm_uI I579 37 ((I579 36 0)).toNatClampNeg x1) 38 (((mm_uI I579 37 ((I579 36 0)).toNatClampNeg x1) 36 0)).toNatClampNeg x2) 39 (((mm_uI (mm_uI I579 37 ((I579 36 0)).toNatClampNeg x1) 38 (((mm_uI I579 37 ((I579 36 0)).toNatClampNeg x1) 36 0)).toNatClampNeg x2) 36 0)).toNatClampNeg x3) 36 0)).toNatClampNeg x4) 36 0)).toNatClampNeg (x6 + 1)) 36 0)).toNatClampNeg r581) 36 0 (((mm_uI (mm_uI (mm_uI (mm_uI (mm_uI (mm_uI I579 37 ((I579 36 0)).toNatClampNeg x1) 38 (((mm_uI I579 37 ((I579 36 0)).toNatClampNeg x1) 36 0)).toNatClampNeg x2) 39 (((mm_uI (mm_uI I579 37 ((I579 36 0)).toNatClampNeg x1) 38 (((mm_uI I579 37 ((I579 36 0)).toNatClampNeg x1) 36 0)).toNatClampNeg x2) 36 0)).toNatClampNeg x3) 40 (((mm_uI (mm_uI (mm_uI I579 37 ((I579 36 0)).toNatClampNeg x1) 38 (((mm_uI I579 37 ((I579 36 0)).toNatClampNeg x1) 36 0)).toNatClampNeg x2) 39 (((mm_uI (mm_uI I579 37 ((I579 36 0)).toNatClampNeg x1) 38 (((mm_uI I579 37 ((I579 36 0)).toNatClampNeg x1) 36 0)).toNatClampNeg x2) 36 0)).toNatClampNeg x3) 36 0)).toNatClampNeg x4) 41 (((mm_uI (mm_uI (mm_uI (mm_uI I579 37 ((I579 36 0)).toNatClampNeg x1) 38 (((mm_uI I579 37 ((I579 36 0)).toNatClampNeg x1) 36 0)).toNatClampNeg x2) 39 (((mm_uI (mm_uI I579 37 ((I579 36 0)).toNatClampNeg x1) 38 (((mm_uI I579 37 ((I579 36 0)).toNatClampNeg x1) 36 0)).toNatClampNeg x2) 36 0)).toNatClampNeg x3) 40 (((mm_uI (mm_uI (mm_uI I579 37 ((I579 36 0)).toNatClampNeg x1) 38 (((mm_uI I579 37 ((I579 36 0)).toNatClampNeg x1) 36 0)).toNatClampNeg x2) 39 (((mm_uI (mm_uI I579 37 ((I579 36 0)).toNatClampNeg x1) 38 (((mm_uI I579 37 ((I579 36 0)).toNatClampNeg x1) 36 0)).toNatClampNeg x2) 36 0)).toNatClampNeg x3) 36 0)).toNatClampNeg x4) 36 0)).toNatClampNeg (x6 + 1)) 42 (((mm_uI (mm_uI (mm_uI (mm_uI (mm_uI I579 37 ((I579 36 0)).toNatClampNeg x1) 38 (((mm_uI I579 37 ((I579 36 0)).toNatClampNeg x1) 36 0)).toNatClampNeg x2) 39 (((mm_uI (mm_uI I579 37 ((I579 36 0)).toNatClampNeg x1) 38 (((mm_uI I579 37 ((I579 36 0)).toNatClampNeg x1) 36 0)).toNatClampNeg x2) 36 0)).toNatClampNeg x3) 40 (((mm_uI (mm_uI (mm_uI I579 37 ((I579 36 0)).toNatClampNeg x1) 38 (((mm_uI I579 37 ((I579 36 0)).toNatClampNeg x1) 36 0)).toNatClampNeg x2) 39 (((mm_uI (mm_uI I579 37 ((I579 36 0)).toNatClampNeg x1) 38 (((mm_uI I579 37 ((I579 36 0)).toNatClampNeg x1) 36 0)).toNatClampNeg x2) 36 0)).toNatClampNeg x3) 36 0)).toNatClampNeg x4) 41 (((mm_uI (mm_uI (mm_uI (mm_uI I579 37 ((I579 36 0)).toNatClampNeg x1) 38 (((mm_uI I579 37 ((I579 36 0)).toNatClampNeg x1) 36 0)).toNatClampNeg x2) 39 (((mm_uI (mm_uI I579 37 ((I579 36 0)).toNatClampNeg x1) 38 (((mm_uI I579 37 ((I579 36 0)).toNatClampNeg x1) 36 0)).toNatClampNeg x2) 36 0)).toNatClampNeg x3) 40 (((mm_uI (mm_uI (mm_uI I579 37 ((I579 36 0)).toNatClampNeg x1) 38 (((mm_uI I579 37 ((I579 36 0)).toNatClampNeg x1) 36 0)).toNatClampNeg x2) 39 (((mm_uI (mm_uI I579 37 ((I579 36 0)).toNatClampNeg x1) 38 (((mm_uI I579 37 ((I579 36 0)).toNatClampNeg x1) 36 0)).toNatClampNeg x2) 36 0)).toNatClampNeg x3) 36 0)).toNatClampNeg x4) 36 0)).toNatClampNeg (x6 + 1)) 36 0)).toNatClampNeg r581) 36 0) + 1)) L580) ∧ ((I579 36 0) = 70 → Q (-2) I579 L580)) ∧ (x6 = 10 → Q (-1) I579 L580))
def vc_X7_node_205 (x1 : Int32) (x2 : Int32) (x3 : Int32) (x4 : Int32) (x6 : Int32) (x10 : Int32) (xs0 : Int32) (xs1 : Int32) (xs2 : Int32) (I : mm_I) (L : mm_L) (Q : Int32 → mm_I → mm_L → Prop) : Prop :=
  vc_X7_high xs2 xs1 xs0 I L (fun r577 I575 L576 => (x10 = 0 → vc_X7_node_231 x1 x2 x3 x4 x6 0 x10 r577 I575 L576 Q) ∧ (¬ x10 = 0 → vp_in x4 70 ∧ vc_X7_node_231 x1 x2 x3 x4 x6 (I575 42 x4.toNatClampNeg) x10 r577 I575 L576 Q))
def vc_X7_node_180 (x1 : Int32) (x2 : Int32) (x3 : Int32) (x4 : Int32) (x6 : Int32) (x9 : Int32) (x10 : Int32) (xs0 : Int32) (xs1 : Int32) (xs2 : Int32) (I : mm_I) (L : mm_L) (Q : Int32 → mm_I → mm_L → Prop) : Prop :=
  vc_X7_high xs2 xs1 xs0 I L (fun r573 I571 L572 => (x9 = 0 → vc_X7_node_205 x1 x2 x3 x4 x6 x10 0 x9 r573 I571 L572 Q) ∧ (¬ x9 = 0 → vp_in x3 70 ∧ vc_X7_node_205 x1 x2 x3 x4 x6 x10 (I571 42 x3.toNatClampNeg) x9 r573 I571 L572 Q))
def vc_X7_node_155 (x1 : Int32) (x2 : Int32) (x3 : Int32) (x4 : Int32) (x7 : Int32) (x8 : Int32) (x9 : Int32) (x10 : Int32) (xs0 : Int32) (xs1 : Int32) (xs2 : Int32) (I : mm_I) (L : mm_L) (Q : Int32 → mm_I → mm_L → Prop) : Prop :=
  vc_X7_high xs2 xs1 xs0 I L (fun r569 I567 L568 => (x8 = 0 → vc_X7_node_180 x1 x2 x3 x4 r569 x9 x10 0 x8 x7 I567 L568 Q) ∧ (¬ x8 = 0 → vp_in x2 70 ∧ vc_X7_node_180 x1 x2 x3 x4 r569 x9 x10 (I567 42 x2.toNatClampNeg) x8 x7 I567 L568 Q))
def vc_X7_node_129 (x1 : Int32) (x2 : Int32) (x3 : Int32) (x4 : Int32) (x7 : Int32) (x8 : Int32) (x9 : Int32) (x10 : Int32) (xs0 : Int32) (xs1 : Int32) (xs2 : Int32) (I : mm_I) (L : mm_L) (Q : Int32 → mm_I → mm_L → Prop) : Prop :=
  vc_X7_high xs2 xs1 xs0 I L (fun r565 I563 L564 => (x10 = 0 → vc_X7_node_155 x1 x2 x3 x4 x7 x8 x9 x10 0 x10 r565 I563 L564 Q) ∧ (¬ x10 = 0 → vp_in x4 70 ∧ vc_X7_node_155 x1 x2 x3 x4 x7 x8 x9 x10 (I563 41 x4.toNatClampNeg) x10 r565 I563 L564 Q))
def vc_X7_node_104 (x1 : Int32) (x2 : Int32) (x3 : Int32) (x4 : Int32) (x7 : Int32) (x8 : Int32) (x9 : Int32) (x10 : Int32) (xs0 : Int32) (xs1 : Int32) (xs2 : Int32) (I : mm_I) (L : mm_L) (Q : Int32 → mm_I → mm_L → Prop) : Prop :=
  vc_X7_high xs2 xs1 xs0 I L (fun r561 I559 L560 => (x9 = 0 → vc_X7_node_129 x1 x2 x3 x4 x7 x8 x9 x10 0 x9 r561 I559 L560 Q) ∧ (¬ x9 = 0 → vp_in x3 70 ∧ vc_X7_node_129 x1 x2 x3 x4 x7 x8 x9 x10 (I559 41 x3.toNatClampNeg) x9 r561 I559 L560 Q))
def vc_X7_node_82 (x1 : Int32) (x2 : Int32) (x3 : Int32) (x4 : Int32) (x6 : Int32) (x7 : Int32) (x8 : Int32) (x9 : Int32) (xs0 : Int32) (I : mm_I) (L : mm_L) (Q : Int32 → mm_I → mm_L → Prop) : Prop :=
  (x8 = 0 → vc_X7_node_104 x1 x2 x3 x4 x7 x8 x9 xs0 0 x8 x6 I L Q) ∧ (¬ x8 = 0 → vp_in x2 70 ∧ vc_X7_node_104 x1 x2 x3 x4 x7 x8 x9 xs0 (I 41 x2.toNatClampNeg) x8 x6 I L Q)
def vc_X7_node_68 (x1 : Int32) (x2 : Int32) (x3 : Int32) (x4 : Int32) (x5 : Int32) (x6 : Int32) (x7 : Int32) (x8 : Int32) (xs0 : Int32) (I : mm_I) (L : mm_L) (Q : Int32 → mm_I → mm_L → Prop) : Prop :=
  ((x5 &&& 4) = 0 → vc_X7_node_82 x1 x2 x3 x4 x6 x7 x8 xs0 0 I L Q) ∧ (¬ (x5 &&& 4) = 0 → vc_X7_node_82 x1 x2 x3 x4 x6 x7 x8 xs0 1 I L Q)
def vc_X7_node_54 (x1 : Int32) (x2 : Int32) (x3 : Int32) (x4 : Int32) (x5 : Int32) (x6 : Int32) (x7 : Int32) (xs0 : Int32) (I : mm_I) (L : mm_L) (Q : Int32 → mm_I → mm_L → Prop) : Prop :=
  ((x5 &&& 2) = 0 → vc_X7_node_68 x1 x2 x3 x4 x5 x6 x7 xs0 0 I L Q) ∧ (¬ (x5 &&& 2) = 0 → vc_X7_node_68 x1 x2 x3 x4 x5 x6 x7 xs0 1 I L Q)
def vc_X7_node_53 (x1 : Int32) (x2 : Int32) (x3 : Int32) (x4 : Int32) (x5 : Int32) (x6 : Int32) (x7 : Int32) (I : mm_I) (L : mm_L) (Q : Int32 → mm_I → mm_L → Prop) : Prop :=
  vc_X7_node_54 x1 x2 x3 x4 x5 x6 x7 0 I L Q
def vc_X7_node_36 (x1 : Int32) (x2 : Int32) (x3 : Int32) (x4 : Int32) (x5 : Int32) (x6 : Int32) (xs0 : Int32) (I : mm_I) (L : mm_L) (Q : Int32 → mm_I → mm_L → Prop) : Prop :=
  ((x5 &&& 1) = 0 → vc_X7_node_53 x1 x2 x3 x4 x5 x6 xs0 I L Q) ∧ (¬ (x5 &&& 1) = 0 → (x2 < 0 → vc_X7_node_53 x1 x2 x3 x4 x5 x6 xs0 I L Q) ∧ (¬ x2 < 0 → vc_X7_node_54 x1 x2 x3 x4 x5 x6 xs0 1 I L Q))
def vc_X7_node_0 (x1 : Int32) (x2 : Int32) (x3 : Int32) (x4 : Int32) (I : mm_I) (L : mm_L) (Q : Int32 → mm_I → mm_L → Prop) : Prop :=
  vc_X7_fits x1 x2 x3 x4 I L (fun r554 I552 L553 => (¬ r554 = 0 → vc_X7_named x1 I552 L553 (fun r557 I555 L556 => (¬ x1 = 2 → vc_X7_node_36 x1 x2 x3 x4 r557 0 0 I555 L556 Q) ∧ (x1 = 2 → vc_X7_node_36 x1 x2 x3 x4 r557 0 (x2 + 1) I555 L556 Q))) ∧ (r554 = 0 → Q (-1) I552 L553))
set_option maxHeartbeats 4000000 in
set_option maxRecDepth 100000 in
theorem w_X7_node_231 {p : Program} {l : Launch} {e : Env} {s : State} {m : MethodId} {args : Array Value} {below : List Frame} {meth : Method} {c : Code} {G : mm_G} (hcx : mm_cx c_X7_node (some .int) 11 RX7 G p s m args meth c) (x1 : Int32) (x2 : Int32) (x3 : Int32) (x4 : Int32) (x6 : Int32) (xs0 : Int32) (xs1 : Int32) (xs2 : Int32) (I : mm_I) (L : mm_L) (Q : Int32 → mm_I → mm_L → Prop)  (hv : vc_X7_node_231 x1 x2 x3 x4 x6 xs0 xs1 xs2 I L Q) {H : Heap} {locs : List Loc} (hP : mm_PW G I L H) (hD : mm_DW G I L) (hS : va_S G.2.2.2.1 s.heap H locs) {ls : Array Slot} (hl : lv_has ls 11 [(0, .ref (G.2.2.1 36)), (1, .int x1), (2, .int x2), (3, .int x3), (4, .int x4), (6, .int x6)]) : W p l e (headSpec w_X7_node rm_X7_node).room s m args below meth c H locs 0 0 (MQ below (mm_qi G Q) args s 0 0 G.2.2.2.1) (F0 m 231 ls [.int xs0, .int xs1, .int xs2, .ref (G.2.2.1 36)]) := by
  obtain ⟨hx, hb, hr, hlocks, hml, hown, hg, hK, hC⟩ := id hcx
  unfold vc_X7_node_231 at hv
  refine va_calli (va_runV (As := [.int xs2, .int xs1, .int xs0]) (rest := []) ⟨hx, hb, hml, hown, hg⟩ (m_X7_high l G xs2 xs1 xs0 I L _  hv) (cwV 3 hg (mm_gV k_234 k_235 k_236 k_223 kc_X7_high) rfl rfl rfl (by decide +kernel) ⟨Nat.le_of_ble_eq_true rfl, Nat.le_of_ble_eq_true rfl⟩) ⟨mm_blind, mm_recv hK hP (t := 36) (by decide) rfl rfl, fun U hU hW => mm_call hP hK hD hC hU hS hW⟩ rfl rfl hl.1 rfl (lv_room (Nat.le_of_ble_eq_true rfl)) d_X7_node_231 ⟨Nat.zero_le _, Nat.zero_le _⟩) hS (fun q _ h => h) (fun q h => h) (fun r581 u t H locs ht hvm hv hP hz1 hk1 hS => ?_)
  obtain ⟨I579, L580⟩ := u
  dsimp only at hv hP
  rw [ht] at hP
  have hD : mm_DW G I579 L580 := mm_D_any hD
  refine lv_istore (lv' := [(7, .int r581), (0, .ref (G.2.2.1 36)), (1, .int x1), (2, .int x2), (3, .int x3), (4, .int x4), (6, .int x6)]) hx hb d_X7_node_234 hl (by decide) rfl (fun ls hl => ?_)
  refine lv_iload hx hb d_X7_node_236 (lv_at hl 6 rfl) ?_
  refine lv_bipush (v := 10) hx hb d_X7_node_238 (by decide) ?_
  refine lv_icmp_ne (tgt := 245) hx hb d_X7_node_240 (by decide) (fun hc => ?_) (fun hc => ?_)
  · have hv := hv.1 hc
    refine lv_aload_n hx hb d_X7_node_245 rfl (lv_at hl 1 rfl) ?_
    refine mm_gi (D := G.1) (C := RX7) (T := TX7) (N0 := 21) hx hb hg in_X7 hown hK hP (t := 36) (by decide) rfl rfl 0 (by decide) (hg _ k_219) (fun _ h9 => h9) rfl d_X7_node_246 ?_
    refine lv_bipush (v := 70) hx hb d_X7_node_249 (by decide) ?_
    refine lv_icmp_ne (tgt := 257) hx hb d_X7_node_251 (by decide) (fun hc => ?_) (fun hc => ?_)
    · have hv := hv.1 hc
      refine lv_aload_n hx hb d_X7_node_257 rfl (lv_at hl 1 rfl) ?_
      refine mm_gr (D := G.1) (C := RX7) (T := TX7) (N0 := 21) (r := 37) hx hb hg in_X7 hown hK hP (t := 36) (by decide) rfl rfl 2 (by decide) (hg _ k_238) (fun _ h9 => h9) rfl d_X7_node_258 ?_
      refine lv_aload_n hx hb d_X7_node_261 rfl (lv_at hl 1 rfl) ?_
      refine mm_gi (D := G.1) (C := RX7) (T := TX7) (N0 := 21) hx hb hg in_X7 hown hK hP (t := 36) (by decide) rfl rfl 0 (by decide) (hg _ k_219) (fun _ h9 => h9) rfl d_X7_node_262 ?_
      refine lv_iload_n hx hb d_X7_node_265 rfl (lv_at hl 2 rfl) ?_
      obtain ⟨h582, hv⟩ := hv
      refine mm_iast (D := G.1) hx hb hK hP hD hS (t := 37) (by decide) rfl rfl h582 d_X7_node_266 (fun H locs hP hD hS => ?_)
      refine lv_aload_n hx hb d_X7_node_267 rfl (lv_at hl 1 rfl) ?_
      refine mm_gr (D := G.1) (C := RX7) (T := TX7) (N0 := 21) (r := 38) hx hb hg in_X7 hown hK hP (t := 36) (by decide) rfl rfl 3 (by decide) (hg _ k_239) (fun _ h9 => h9) rfl d_X7_node_268 ?_
      refine lv_aload_n hx hb d_X7_node_271 rfl (lv_at hl 1 rfl) ?_
      refine mm_gi (D := G.1) (C := RX7) (T := TX7) (N0 := 21) hx hb hg in_X7 hown hK hP (t := 36) (by decide) rfl rfl 0 (by decide) (hg _ k_219) (fun _ h9 => h9) rfl d_X7_node_272 ?_
      refine lv_iload_n hx hb d_X7_node_275 rfl (lv_at hl 3 rfl) ?_
      obtain ⟨h583, hv⟩ := hv
      refine mm_iast (D := G.1) hx hb hK hP hD hS (t := 38) (by decide) rfl rfl h583 d_X7_node_276 (fun H locs hP hD hS => ?_)
      refine lv_aload_n hx hb d_X7_node_277 rfl (lv_at hl 1 rfl) ?_
      refine mm_gr (D := G.1) (C := RX7) (T := TX7) (N0 := 21) (r := 39) hx hb hg in_X7 hown hK hP (t := 36) (by decide) rfl rfl 4 (by decide) (hg _ k_240) (fun _ h9 => h9) rfl d_X7_node_278 ?_
      refine lv_aload_n hx hb d_X7_node_281 rfl (lv_at hl 1 rfl) ?_
      refine mm_gi (D := G.1) (C := RX7) (T := TX7) (N0 := 21) hx hb hg in_X7 hown hK hP (t := 36) (by decide) rfl rfl 0 (by decide) (hg _ k_219) (fun _ h9 => h9) rfl d_X7_node_282 ?_
      refine lv_iload_n hx hb d_X7_node_285 rfl (lv_at hl 4 rfl) ?_
      obtain ⟨h584, hv⟩ := hv
      refine mm_iast (D := G.1) hx hb hK hP hD hS (t := 39) (by decide) rfl rfl h584 d_X7_node_286 (fun H locs hP hD hS => ?_)
      refine lv_aload_n hx hb d_X7_node_287 rfl (lv_at hl 1 rfl) ?_
      refine mm_gr (D := G.1) (C := RX7) (T := TX7) (N0 := 21) (r := 40) hx hb hg in_X7 hown hK hP (t := 36) (by decide) rfl rfl 5 (by decide) (hg _ k_241) (fun _ h9 => h9) rfl d_X7_node_288 ?_
      refine lv_aload_n hx hb d_X7_node_291 rfl (lv_at hl 1 rfl) ?_
      refine mm_gi (D := G.1) (C := RX7) (T := TX7) (N0 := 21) hx hb hg in_X7 hown hK hP (t := 36) (by decide) rfl rfl 0 (by decide) (hg _ k_219) (fun _ h9 => h9) rfl d_X7_node_292 ?_
      refine lv_iload hx hb d_X7_node_295 (lv_at hl 5 rfl) ?_
      obtain ⟨h585, hv⟩ := hv
      refine mm_iast (D := G.1) hx hb hK hP hD hS (t := 40) (by decide) rfl rfl h585 d_X7_node_297 (fun H locs hP hD hS => ?_)
      refine lv_aload_n hx hb d_X7_node_298 rfl (lv_at hl 1 rfl) ?_
      refine mm_gr (D := G.1) (C := RX7) (T := TX7) (N0 := 21) (r := 41) hx hb hg in_X7 hown hK hP (t := 36) (by decide) rfl rfl 6 (by decide) (hg _ k_233) (fun _ h9 => h9) rfl d_X7_node_299 ?_
      refine lv_aload_n hx hb d_X7_node_302 rfl (lv_at hl 1 rfl) ?_
      refine mm_gi (D := G.1) (C := RX7) (T := TX7) (N0 := 21) hx hb hg in_X7 hown hK hP (t := 36) (by decide) rfl rfl 0 (by decide) (hg _ k_219) (fun _ h9 => h9) rfl d_X7_node_303 ?_
      refine lv_iload hx hb d_X7_node_306 (lv_at hl 6 rfl) ?_
      refine lv_iconst (v := 1) hx hb d_X7_node_308 (by decide) ?_
      refine lv_iadd hx hb d_X7_node_309 ?_
      obtain ⟨h586, hv⟩ := hv
      refine mm_iast (D := G.1) hx hb hK hP hD hS (t := 41) (by decide) rfl rfl h586 d_X7_node_310 (fun H locs hP hD hS => ?_)
      refine lv_aload_n hx hb d_X7_node_311 rfl (lv_at hl 1 rfl) ?_
      refine mm_gr (D := G.1) (C := RX7) (T := TX7) (N0 := 21) (r := 42) hx hb hg in_X7 hown hK hP (t := 36) (by decide) rfl rfl 7 (by decide) (hg _ k_237) (fun _ h9 => h9) rfl d_X7_node_312 ?_
      refine lv_aload_n hx hb d_X7_node_315 rfl (lv_at hl 1 rfl) ?_
      refine mm_gi (D := G.1) (C := RX7) (T := TX7) (N0 := 21) hx hb hg in_X7 hown hK hP (t := 36) (by decide) rfl rfl 0 (by decide) (hg _ k_219) (fun _ h9 => h9) rfl d_X7_node_316 ?_
      refine lv_iload hx hb d_X7_node_319 (lv_at hl 0 rfl) ?_
      obtain ⟨h587, hv⟩ := hv
      refine mm_iast (D := G.1) hx hb hK hP hD hS (t := 42) (by decide) rfl rfl h587 d_X7_node_321 (fun H locs hP hD hS => ?_)
      refine lv_aload_n hx hb d_X7_node_322 rfl (lv_at hl 1 rfl) ?_
      refine lv_dup hx hb d_X7_node_323 rfl ?_
      refine mm_gi (D := G.1) (C := RX7) (T := TX7) (N0 := 21) hx hb hg in_X7 hown hK hP (t := 36) (by decide) rfl rfl 0 (by decide) (hg _ k_219) (fun _ h9 => h9) rfl d_X7_node_324 ?_
      refine lv_iconst (v := 1) hx hb d_X7_node_327 (by decide) ?_
      refine lv_iadd hx hb d_X7_node_328 ?_
      refine mm_pi (D := G.1) (C := RX7) (T := TX7) (N0 := 21) (ty := .int) hx hb hg in_X7 tyX7 tyX7_ok nmX7 hown hK hP hD hS (t := 36) (by decide) rfl rfl 0 (by decide) (hg _ k_219) (fun _ h9 => h9) rfl (by decide +kernel) rfl rfl rfl d_X7_node_329 (fun H locs hP hD hS => ?_)
      refine lv_aload_n hx hb d_X7_node_332 rfl (lv_at hl 1 rfl) ?_
      refine mm_gi (D := G.1) (C := RX7) (T := TX7) (N0 := 21) hx hb hg in_X7 hown hK hP (t := 36) (by decide) rfl rfl 0 (by decide) (hg _ k_219) (fun _ h9 => h9) rfl d_X7_node_333 ?_
      refine lv_iconst (v := 1) hx hb d_X7_node_336 (by decide) ?_
      refine lv_isub hx hb d_X7_node_337 ?_
      exact W.iret (v := (((mm_uI (mm_uI (mm_uI (mm_uI (mm_uI (mm_uI (mm_uI I579 37 ((I579 36 0)).toNatClampNeg x1) 38 (((mm_uI I579 37 ((I579 36 0)).toNatClampNeg x1) 36 0)).toNatClampNeg x2) 39 (((mm_uI (mm_uI I579 37 ((I579 36 0)).toNatClampNeg x1) 38 (((mm_uI I579 37 ((I579 36 0)).toNatClampNeg x1) 36 0)).toNatClampNeg x2) 36 0)).toNatClampNeg x3) 40 (((mm_uI (mm_uI (mm_uI I579 37 ((I579 36 0)).toNatClampNeg x1) 38 (((mm_uI I579 37 ((I579 36 0)).toNatClampNeg x1) 36 0)).toNatClampNeg x2) 39 (((mm_uI (mm_uI I579 37 ((I579 36 0)).toNatClampNeg x1) 38 (((mm_uI I579 37 ((I579 36 0)).toNatClampNeg x1) 36 0)).toNatClampNeg x2) 36 0)).toNatClampNeg x3) 36 0)).toNatClampNeg x4) 41 (((mm_uI (mm_uI (mm_uI (mm_uI I579 37 ((I579 36 0)).toNatClampNeg x1) 38 (((mm_uI I579 37 ((I579 36 0)).toNatClampNeg x1) 36 0)).toNatClampNeg x2) 39 (((mm_uI (mm_uI I579 37 ((I579 36 0)).toNatClampNeg x1) 38 (((mm_uI I579 37 ((I579 36 0)).toNatClampNeg x1) 36 0)).toNatClampNeg x2) 36 0)).toNatClampNeg x3) 40 (((mm_uI (mm_uI (mm_uI I579 37 ((I579 36 0)).toNatClampNeg x1) 38 (((mm_uI I579 37 ((I579 36 0)).toNatClampNeg x1) 36 0)).toNatClampNeg x2) 39 (((mm_uI (mm_uI I579 37 ((I579 36 0)).toNatClampNeg x1) 38 (((mm_uI I579 37 ((I579 36 0)).toNatClampNeg x1) 36 0)).toNatClampNeg x2) 36 0)).toNatClampNeg x3) 36 0)).toNatClampNeg x4) 36 0)).toNatClampNeg (x6 + 1)) 42 (((mm_uI (mm_uI (mm_uI (mm_uI (mm_uI I579 37 ((I579 36 0)).toNatClampNeg x1) 38 (((mm_uI I579 37 ((I579 36 0)).toNatClampNeg x1) 36 0)).toNatClampNeg x2) 39 (((mm_uI (mm_uI I579 37 ((I579 36 0)).toNatClampNeg x1) 38 (((mm_uI I579 37 ((I579 36 0)).toNatClampNeg x1) 36 0)).toNatClampNeg x2) 36 0)).toNatClampNeg x3) 40 (((mm_uI (mm_uI (mm_uI I579 37 ((I579 36 0)).toNatClampNeg x1) 38 (((mm_uI I579 37 ((I579 36 0)).toNatClampNeg x1) 36 0)).toNatClampNeg x2) 39 (((mm_uI (mm_uI I579 37 ((I579 36 0)).toNatClampNeg x1) 38 (((mm_uI I579 37 ((I579 36 0)).toNatClampNeg x1) 36 0)).toNatClampNeg x2) 36 0)).toNatClampNeg x3) 36 0)).toNatClampNeg x4) 41 (((mm_uI (mm_uI (mm_uI (mm_uI I579 37 ((I579 36 0)).toNatClampNeg x1) 38 (((mm_uI I579 37 ((I579 36 0)).toNatClampNeg x1) 36 0)).toNatClampNeg x2) 39 (((mm_uI (mm_uI I579 37 ((I579 36 0)).toNatClampNeg x1) 38 (((mm_uI I579 37 ((I579 36 0)).toNatClampNeg x1) 36 0)).toNatClampNeg x2) 36 0)).toNatClampNeg x3) 40 (((mm_uI (mm_uI (mm_uI I579 37 ((I579 36 0)).toNatClampNeg x1) 38 (((mm_uI I579 37 ((I579 36 0)).toNatClampNeg x1) 36 0)).toNatClampNeg x2) 39 (((mm_uI (mm_uI I579 37 ((I579 36 0)).toNatClampNeg x1) 38 (((mm_uI I579 37 ((I579 36 0)).toNatClampNeg x1) 36 0)).toNatClampNeg x2) 36 0)).toNatClampNeg x3) 36 0)).toNatClampNeg x4) 36 0)).toNatClampNeg (x6 + 1)) 36 0)).toNatClampNeg r581) 36 0 (((mm_uI (mm_uI (mm_uI (mm_uI (mm_uI (mm_uI I579 37 ((I579 36 0)).toNatClampNeg x1) 38 (((mm_uI I579 37 ((I579 36 0)).toNatClampNeg x1) 36 0)).toNatClampNeg x2) 39 (((mm_uI (mm_uI I579 37 ((I579 36 0)).toNatClampNeg x1) 38 (((mm_uI I579 37 ((I579 36 0)).toNatClampNeg x1) 36 0)).toNatClampNeg x2) 36 0)).toNatClampNeg x3) 40 (((mm_uI (mm_uI (mm_uI I579 37 ((I579 36 0)).toNatClampNeg x1) 38 (((mm_uI I579 37 ((I579 36 0)).toNatClampNeg x1) 36 0)).toNatClampNeg x2) 39 (((mm_uI (mm_uI I579 37 ((I579 36 0)).toNatClampNeg x1) 38 (((mm_uI I579 37 ((I579 36 0)).toNatClampNeg x1) 36 0)).toNatClampNeg x2) 36 0)).toNatClampNeg x3) 36 0)).toNatClampNeg x4) 41 (((mm_uI (mm_uI (mm_uI (mm_uI I579 37 ((I579 36 0)).toNatClampNeg x1) 38 (((mm_uI I579 37 ((I579 36 0)).toNatClampNeg x1) 36 0)).toNatClampNeg x2) 39 (((mm_uI (mm_uI I579 37 ((I579 36 0)).toNatClampNeg x1) 38 (((mm_uI I579 37 ((I579 36 0)).toNatClampNeg x1) 36 0)).toNatClampNeg x2) 36 0)).toNatClampNeg x3) 40 (((mm_uI (mm_uI (mm_uI I579 37 ((I579 36 0)).toNatClampNeg x1) 38 (((mm_uI I579 37 ((I579 36 0)).toNatClampNeg x1) 36 0)).toNatClampNeg x2) 39 (((mm_uI (mm_uI I579 37 ((I579 36 0)).toNatClampNeg x1) 38 (((mm_uI I579 37 ((I579 36 0)).toNatClampNeg x1) 36 0)).toNatClampNeg x2) 36 0)).toNatClampNeg x3) 36 0)).toNatClampNeg x4) 36 0)).toNatClampNeg (x6 + 1)) 42 (((mm_uI (mm_uI (mm_uI (mm_uI (mm_uI I579 37 ((I579 36 0)).toNatClampNeg x1) 38 (((mm_uI I579 37 ((I579 36 0)).toNatClampNeg x1) 36 0)).toNatClampNeg x2) 39 (((mm_uI (mm_uI I579 37 ((I579 36 0)).toNatClampNeg x1) 38 (((mm_uI I579 37 ((I579 36 0)).toNatClampNeg x1) 36 0)).toNatClampNeg x2) 36 0)).toNatClampNeg x3) 40 (((mm_uI (mm_uI (mm_uI I579 37 ((I579 36 0)).toNatClampNeg x1) 38 (((mm_uI I579 37 ((I579 36 0)).toNatClampNeg x1) 36 0)).toNatClampNeg x2) 39 (((mm_uI (mm_uI I579 37 ((I579 36 0)).toNatClampNeg x1) 38 (((mm_uI I579 37 ((I579 36 0)).toNatClampNeg x1) 36 0)).toNatClampNeg x2) 36 0)).toNatClampNeg x3) 36 0)).toNatClampNeg x4) 41 (((mm_uI (mm_uI (mm_uI (mm_uI I579 37 ((I579 36 0)).toNatClampNeg x1) 38 (((mm_uI I579 37 ((I579 36 0)).toNatClampNeg x1) 36 0)).toNatClampNeg x2) 39 (((mm_uI (mm_uI I579 37 ((I579 36 0)).toNatClampNeg x1) 38 (((mm_uI I579 37 ((I579 36 0)).toNatClampNeg x1) 36 0)).toNatClampNeg x2) 36 0)).toNatClampNeg x3) 40 (((mm_uI (mm_uI (mm_uI I579 37 ((I579 36 0)).toNatClampNeg x1) 38 (((mm_uI I579 37 ((I579 36 0)).toNatClampNeg x1) 36 0)).toNatClampNeg x2) 39 (((mm_uI (mm_uI I579 37 ((I579 36 0)).toNatClampNeg x1) 38 (((mm_uI I579 37 ((I579 36 0)).toNatClampNeg x1) 36 0)).toNatClampNeg x2) 36 0)).toNatClampNeg x3) 36 0)).toNatClampNeg x4) 36 0)).toNatClampNeg (x6 + 1)) 36 0)).toNatClampNeg r581) 36 0) + 1)) 36 0) - 1)) hx hb hr (fun t ht hW => ⟨⟨(((mm_uI (mm_uI (mm_uI (mm_uI (mm_uI (mm_uI (mm_uI I579 37 ((I579 36 0)).toNatClampNeg x1) 38 (((mm_uI I579 37 ((I579 36 0)).toNatClampNeg x1) 36 0)).toNatClampNeg x2) 39 (((mm_uI (mm_uI I579 37 ((I579 36 0)).toNatClampNeg x1) 38 (((mm_uI I579 37 ((I579 36 0)).toNatClampNeg x1) 36 0)).toNatClampNeg x2) 36 0)).toNatClampNeg x3) 40 (((mm_uI (mm_uI (mm_uI I579 37 ((I579 36 0)).toNatClampNeg x1) 38 (((mm_uI I579 37 ((I579 36 0)).toNatClampNeg x1) 36 0)).toNatClampNeg x2) 39 (((mm_uI (mm_uI I579 37 ((I579 36 0)).toNatClampNeg x1) 38 (((mm_uI I579 37 ((I579 36 0)).toNatClampNeg x1) 36 0)).toNatClampNeg x2) 36 0)).toNatClampNeg x3) 36 0)).toNatClampNeg x4) 41 (((mm_uI (mm_uI (mm_uI (mm_uI I579 37 ((I579 36 0)).toNatClampNeg x1) 38 (((mm_uI I579 37 ((I579 36 0)).toNatClampNeg x1) 36 0)).toNatClampNeg x2) 39 (((mm_uI (mm_uI I579 37 ((I579 36 0)).toNatClampNeg x1) 38 (((mm_uI I579 37 ((I579 36 0)).toNatClampNeg x1) 36 0)).toNatClampNeg x2) 36 0)).toNatClampNeg x3) 40 (((mm_uI (mm_uI (mm_uI I579 37 ((I579 36 0)).toNatClampNeg x1) 38 (((mm_uI I579 37 ((I579 36 0)).toNatClampNeg x1) 36 0)).toNatClampNeg x2) 39 (((mm_uI (mm_uI I579 37 ((I579 36 0)).toNatClampNeg x1) 38 (((mm_uI I579 37 ((I579 36 0)).toNatClampNeg x1) 36 0)).toNatClampNeg x2) 36 0)).toNatClampNeg x3) 36 0)).toNatClampNeg x4) 36 0)).toNatClampNeg (x6 + 1)) 42 (((mm_uI (mm_uI (mm_uI (mm_uI (mm_uI I579 37 ((I579 36 0)).toNatClampNeg x1) 38 (((mm_uI I579 37 ((I579 36 0)).toNatClampNeg x1) 36 0)).toNatClampNeg x2) 39 (((mm_uI (mm_uI I579 37 ((I579 36 0)).toNatClampNeg x1) 38 (((mm_uI I579 37 ((I579 36 0)).toNatClampNeg x1) 36 0)).toNatClampNeg x2) 36 0)).toNatClampNeg x3) 40 (((mm_uI (mm_uI (mm_uI I579 37 ((I579 36 0)).toNatClampNeg x1) 38 (((mm_uI I579 37 ((I579 36 0)).toNatClampNeg x1) 36 0)).toNatClampNeg x2) 39 (((mm_uI (mm_uI I579 37 ((I579 36 0)).toNatClampNeg x1) 38 (((mm_uI I579 37 ((I579 36 0)).toNatClampNeg x1) 36 0)).toNatClampNeg x2) 36 0)).toNatClampNeg x3) 36 0)).toNatClampNeg x4) 41 (((mm_uI (mm_uI (mm_uI (mm_uI I579 37 ((I579 36 0)).toNatClampNeg x1) 38 (((mm_uI I579 37 ((I579 36 0)).toNatClampNeg x1) 36 0)).toNatClampNeg x2) 39 (((mm_uI (mm_uI I579 37 ((I579 36 0)).toNatClampNeg x1) 38 (((mm_uI I579 37 ((I579 36 0)).toNatClampNeg x1) 36 0)).toNatClampNeg x2) 36 0)).toNatClampNeg x3) 40 (((mm_uI (mm_uI (mm_uI I579 37 ((I579 36 0)).toNatClampNeg x1) 38 (((mm_uI I579 37 ((I579 36 0)).toNatClampNeg x1) 36 0)).toNatClampNeg x2) 39 (((mm_uI (mm_uI I579 37 ((I579 36 0)).toNatClampNeg x1) 38 (((mm_uI I579 37 ((I579 36 0)).toNatClampNeg x1) 36 0)).toNatClampNeg x2) 36 0)).toNatClampNeg x3) 36 0)).toNatClampNeg x4) 36 0)).toNatClampNeg (x6 + 1)) 36 0)).toNatClampNeg r581) 36 0 (((mm_uI (mm_uI (mm_uI (mm_uI (mm_uI (mm_uI I579 37 ((I579 36 0)).toNatClampNeg x1) 38 (((mm_uI I579 37 ((I579 36 0)).toNatClampNeg x1) 36 0)).toNatClampNeg x2) 39 (((mm_uI (mm_uI I579 37 ((I579 36 0)).toNatClampNeg x1) 38 (((mm_uI I579 37 ((I579 36 0)).toNatClampNeg x1) 36 0)).toNatClampNeg x2) 36 0)).toNatClampNeg x3) 40 (((mm_uI (mm_uI (mm_uI I579 37 ((I579 36 0)).toNatClampNeg x1) 38 (((mm_uI I579 37 ((I579 36 0)).toNatClampNeg x1) 36 0)).toNatClampNeg x2) 39 (((mm_uI (mm_uI I579 37 ((I579 36 0)).toNatClampNeg x1) 38 (((mm_uI I579 37 ((I579 36 0)).toNatClampNeg x1) 36 0)).toNatClampNeg x2) 36 0)).toNatClampNeg x3) 36 0)).toNatClampNeg x4) 41 (((mm_uI (mm_uI (mm_uI (mm_uI I579 37 ((I579 36 0)).toNatClampNeg x1) 38 (((mm_uI I579 37 ((I579 36 0)).toNatClampNeg x1) 36 0)).toNatClampNeg x2) 39 (((mm_uI (mm_uI I579 37 ((I579 36 0)).toNatClampNeg x1) 38 (((mm_uI I579 37 ((I579 36 0)).toNatClampNeg x1) 36 0)).toNatClampNeg x2) 36 0)).toNatClampNeg x3) 40 (((mm_uI (mm_uI (mm_uI I579 37 ((I579 36 0)).toNatClampNeg x1) 38 (((mm_uI I579 37 ((I579 36 0)).toNatClampNeg x1) 36 0)).toNatClampNeg x2) 39 (((mm_uI (mm_uI I579 37 ((I579 36 0)).toNatClampNeg x1) 38 (((mm_uI I579 37 ((I579 36 0)).toNatClampNeg x1) 36 0)).toNatClampNeg x2) 36 0)).toNatClampNeg x3) 36 0)).toNatClampNeg x4) 36 0)).toNatClampNeg (x6 + 1)) 42 (((mm_uI (mm_uI (mm_uI (mm_uI (mm_uI I579 37 ((I579 36 0)).toNatClampNeg x1) 38 (((mm_uI I579 37 ((I579 36 0)).toNatClampNeg x1) 36 0)).toNatClampNeg x2) 39 (((mm_uI (mm_uI I579 37 ((I579 36 0)).toNatClampNeg x1) 38 (((mm_uI I579 37 ((I579 36 0)).toNatClampNeg x1) 36 0)).toNatClampNeg x2) 36 0)).toNatClampNeg x3) 40 (((mm_uI (mm_uI (mm_uI I579 37 ((I579 36 0)).toNatClampNeg x1) 38 (((mm_uI I579 37 ((I579 36 0)).toNatClampNeg x1) 36 0)).toNatClampNeg x2) 39 (((mm_uI (mm_uI I579 37 ((I579 36 0)).toNatClampNeg x1) 38 (((mm_uI I579 37 ((I579 36 0)).toNatClampNeg x1) 36 0)).toNatClampNeg x2) 36 0)).toNatClampNeg x3) 36 0)).toNatClampNeg x4) 41 (((mm_uI (mm_uI (mm_uI (mm_uI I579 37 ((I579 36 0)).toNatClampNeg x1) 38 (((mm_uI I579 37 ((I579 36 0)).toNatClampNeg x1) 36 0)).toNatClampNeg x2) 39 (((mm_uI (mm_uI I579 37 ((I579 36 0)).toNatClampNeg x1) 38 (((mm_uI I579 37 ((I579 36 0)).toNatClampNeg x1) 36 0)).toNatClampNeg x2) 36 0)).toNatClampNeg x3) 40 (((mm_uI (mm_uI (mm_uI I579 37 ((I579 36 0)).toNatClampNeg x1) 38 (((mm_uI I579 37 ((I579 36 0)).toNatClampNeg x1) 36 0)).toNatClampNeg x2) 39 (((mm_uI (mm_uI I579 37 ((I579 36 0)).toNatClampNeg x1) 38 (((mm_uI I579 37 ((I579 36 0)).toNatClampNeg x1) 36 0)).toNatClampNeg x2) 36 0)).toNatClampNeg x3) 36 0)).toNatClampNeg x4) 36 0)).toNatClampNeg (x6 + 1)) 36 0)).toNatClampNeg r581) 36 0) + 1)) 36 0) - 1), ((mm_uI (mm_uI (mm_uI (mm_uI (mm_uI (mm_uI (mm_uI I579 37 ((I579 36 0)).toNatClampNeg x1) 38 (((mm_uI I579 37 ((I579 36 0)).toNatClampNeg x1) 36 0)).toNatClampNeg x2) 39 (((mm_uI (mm_uI I579 37 ((I579 36 0)).toNatClampNeg x1) 38 (((mm_uI I579 37 ((I579 36 0)).toNatClampNeg x1) 36 0)).toNatClampNeg x2) 36 0)).toNatClampNeg x3) 40 (((mm_uI (mm_uI (mm_uI I579 37 ((I579 36 0)).toNatClampNeg x1) 38 (((mm_uI I579 37 ((I579 36 0)).toNatClampNeg x1) 36 0)).toNatClampNeg x2) 39 (((mm_uI (mm_uI I579 37 ((I579 36 0)).toNatClampNeg x1) 38 (((mm_uI I579 37 ((I579 36 0)).toNatClampNeg x1) 36 0)).toNatClampNeg x2) 36 0)).toNatClampNeg x3) 36 0)).toNatClampNeg x4) 41 (((mm_uI (mm_uI (mm_uI (mm_uI I579 37 ((I579 36 0)).toNatClampNeg x1) 38 (((mm_uI I579 37 ((I579 36 0)).toNatClampNeg x1) 36 0)).toNatClampNeg x2) 39 (((mm_uI (mm_uI I579 37 ((I579 36 0)).toNatClampNeg x1) 38 (((mm_uI I579 37 ((I579 36 0)).toNatClampNeg x1) 36 0)).toNatClampNeg x2) 36 0)).toNatClampNeg x3) 40 (((mm_uI (mm_uI (mm_uI I579 37 ((I579 36 0)).toNatClampNeg x1) 38 (((mm_uI I579 37 ((I579 36 0)).toNatClampNeg x1) 36 0)).toNatClampNeg x2) 39 (((mm_uI (mm_uI I579 37 ((I579 36 0)).toNatClampNeg x1) 38 (((mm_uI I579 37 ((I579 36 0)).toNatClampNeg x1) 36 0)).toNatClampNeg x2) 36 0)).toNatClampNeg x3) 36 0)).toNatClampNeg x4) 36 0)).toNatClampNeg (x6 + 1)) 42 (((mm_uI (mm_uI (mm_uI (mm_uI (mm_uI I579 37 ((I579 36 0)).toNatClampNeg x1) 38 (((mm_uI I579 37 ((I579 36 0)).toNatClampNeg x1) 36 0)).toNatClampNeg x2) 39 (((mm_uI (mm_uI I579 37 ((I579 36 0)).toNatClampNeg x1) 38 (((mm_uI I579 37 ((I579 36 0)).toNatClampNeg x1) 36 0)).toNatClampNeg x2) 36 0)).toNatClampNeg x3) 40 (((mm_uI (mm_uI (mm_uI I579 37 ((I579 36 0)).toNatClampNeg x1) 38 (((mm_uI I579 37 ((I579 36 0)).toNatClampNeg x1) 36 0)).toNatClampNeg x2) 39 (((mm_uI (mm_uI I579 37 ((I579 36 0)).toNatClampNeg x1) 38 (((mm_uI I579 37 ((I579 36 0)).toNatClampNeg x1) 36 0)).toNatClampNeg x2) 36 0)).toNatClampNeg x3) 36 0)).toNatClampNeg x4) 41 (((mm_uI (mm_uI (mm_uI (mm_uI I579 37 ((I579 36 0)).toNatClampNeg x1) 38 (((mm_uI I579 37 ((I579 36 0)).toNatClampNeg x1) 36 0)).toNatClampNeg x2) 39 (((mm_uI (mm_uI I579 37 ((I579 36 0)).toNatClampNeg x1) 38 (((mm_uI I579 37 ((I579 36 0)).toNatClampNeg x1) 36 0)).toNatClampNeg x2) 36 0)).toNatClampNeg x3) 40 (((mm_uI (mm_uI (mm_uI I579 37 ((I579 36 0)).toNatClampNeg x1) 38 (((mm_uI I579 37 ((I579 36 0)).toNatClampNeg x1) 36 0)).toNatClampNeg x2) 39 (((mm_uI (mm_uI I579 37 ((I579 36 0)).toNatClampNeg x1) 38 (((mm_uI I579 37 ((I579 36 0)).toNatClampNeg x1) 36 0)).toNatClampNeg x2) 36 0)).toNatClampNeg x3) 36 0)).toNatClampNeg x4) 36 0)).toNatClampNeg (x6 + 1)) 36 0)).toNatClampNeg r581) 36 0 (((mm_uI (mm_uI (mm_uI (mm_uI (mm_uI (mm_uI I579 37 ((I579 36 0)).toNatClampNeg x1) 38 (((mm_uI I579 37 ((I579 36 0)).toNatClampNeg x1) 36 0)).toNatClampNeg x2) 39 (((mm_uI (mm_uI I579 37 ((I579 36 0)).toNatClampNeg x1) 38 (((mm_uI I579 37 ((I579 36 0)).toNatClampNeg x1) 36 0)).toNatClampNeg x2) 36 0)).toNatClampNeg x3) 40 (((mm_uI (mm_uI (mm_uI I579 37 ((I579 36 0)).toNatClampNeg x1) 38 (((mm_uI I579 37 ((I579 36 0)).toNatClampNeg x1) 36 0)).toNatClampNeg x2) 39 (((mm_uI (mm_uI I579 37 ((I579 36 0)).toNatClampNeg x1) 38 (((mm_uI I579 37 ((I579 36 0)).toNatClampNeg x1) 36 0)).toNatClampNeg x2) 36 0)).toNatClampNeg x3) 36 0)).toNatClampNeg x4) 41 (((mm_uI (mm_uI (mm_uI (mm_uI I579 37 ((I579 36 0)).toNatClampNeg x1) 38 (((mm_uI I579 37 ((I579 36 0)).toNatClampNeg x1) 36 0)).toNatClampNeg x2) 39 (((mm_uI (mm_uI I579 37 ((I579 36 0)).toNatClampNeg x1) 38 (((mm_uI I579 37 ((I579 36 0)).toNatClampNeg x1) 36 0)).toNatClampNeg x2) 36 0)).toNatClampNeg x3) 40 (((mm_uI (mm_uI (mm_uI I579 37 ((I579 36 0)).toNatClampNeg x1) 38 (((mm_uI I579 37 ((I579 36 0)).toNatClampNeg x1) 36 0)).toNatClampNeg x2) 39 (((mm_uI (mm_uI I579 37 ((I579 36 0)).toNatClampNeg x1) 38 (((mm_uI I579 37 ((I579 36 0)).toNatClampNeg x1) 36 0)).toNatClampNeg x2) 36 0)).toNatClampNeg x3) 36 0)).toNatClampNeg x4) 36 0)).toNatClampNeg (x6 + 1)) 42 (((mm_uI (mm_uI (mm_uI (mm_uI (mm_uI I579 37 ((I579 36 0)).toNatClampNeg x1) 38 (((mm_uI I579 37 ((I579 36 0)).toNatClampNeg x1) 36 0)).toNatClampNeg x2) 39 (((mm_uI (mm_uI I579 37 ((I579 36 0)).toNatClampNeg x1) 38 (((mm_uI I579 37 ((I579 36 0)).toNatClampNeg x1) 36 0)).toNatClampNeg x2) 36 0)).toNatClampNeg x3) 40 (((mm_uI (mm_uI (mm_uI I579 37 ((I579 36 0)).toNatClampNeg x1) 38 (((mm_uI I579 37 ((I579 36 0)).toNatClampNeg x1) 36 0)).toNatClampNeg x2) 39 (((mm_uI (mm_uI I579 37 ((I579 36 0)).toNatClampNeg x1) 38 (((mm_uI I579 37 ((I579 36 0)).toNatClampNeg x1) 36 0)).toNatClampNeg x2) 36 0)).toNatClampNeg x3) 36 0)).toNatClampNeg x4) 41 (((mm_uI (mm_uI (mm_uI (mm_uI I579 37 ((I579 36 0)).toNatClampNeg x1) 38 (((mm_uI I579 37 ((I579 36 0)).toNatClampNeg x1) 36 0)).toNatClampNeg x2) 39 (((mm_uI (mm_uI I579 37 ((I579 36 0)).toNatClampNeg x1) 38 (((mm_uI I579 37 ((I579 36 0)).toNatClampNeg x1) 36 0)).toNatClampNeg x2) 36 0)).toNatClampNeg x3) 40 (((mm_uI (mm_uI (mm_uI I579 37 ((I579 36 0)).toNatClampNeg x1) 38 (((mm_uI I579 37 ((I579 36 0)).toNatClampNeg x1) 36 0)).toNatClampNeg x2) 39 (((mm_uI (mm_uI I579 37 ((I579 36 0)).toNatClampNeg x1) 38 (((mm_uI I579 37 ((I579 36 0)).toNatClampNeg x1) 36 0)).toNatClampNeg x2) 36 0)).toNatClampNeg x3) 36 0)).toNatClampNeg x4) 36 0)).toNatClampNeg (x6 + 1)) 36 0)).toNatClampNeg r581) 36 0) + 1)), L580), rfl, hv, mm_mv ht hP⟩, hS.F ht⟩) hS.2.2 d_X7_node_338
    · have hv := hv.2 hc
      refine lv_bipush (v := (-2)) hx hb d_X7_node_254 (by decide) ?_
      exact W.iret (v := (-2)) hx hb hr (fun t ht hW => ⟨⟨(-2), (I579, L580), rfl, hv, mm_mv ht hP⟩, hS.F ht⟩) hS.2.2 d_X7_node_256
  · have hv := hv.2 hc
    refine lv_iconst (v := (-1)) hx hb d_X7_node_243 (by decide) ?_
    exact W.iret (v := (-1)) hx hb hr (fun t ht hW => ⟨⟨(-1), (I579, L580), rfl, hv, mm_mv ht hP⟩, hS.F ht⟩) hS.2.2 d_X7_node_244
set_option maxHeartbeats 4000000 in
set_option maxRecDepth 100000 in
theorem w_X7_node_205 {p : Program} {l : Launch} {e : Env} {s : State} {m : MethodId} {args : Array Value} {below : List Frame} {meth : Method} {c : Code} {G : mm_G} (hcx : mm_cx c_X7_node (some .int) 11 RX7 G p s m args meth c) (x1 : Int32) (x2 : Int32) (x3 : Int32) (x4 : Int32) (x6 : Int32) (x10 : Int32) (xs0 : Int32) (xs1 : Int32) (xs2 : Int32) (I : mm_I) (L : mm_L) (Q : Int32 → mm_I → mm_L → Prop)  (hv : vc_X7_node_205 x1 x2 x3 x4 x6 x10 xs0 xs1 xs2 I L Q) {H : Heap} {locs : List Loc} (hP : mm_PW G I L H) (hD : mm_DW G I L) (hS : va_S G.2.2.2.1 s.heap H locs) {ls : Array Slot} (hl : lv_has ls 11 [(0, .ref (G.2.2.1 36)), (1, .int x1), (2, .int x2), (3, .int x3), (4, .int x4), (6, .int x6), (10, .int x10)]) : W p l e (headSpec w_X7_node rm_X7_node).room s m args below meth c H locs 0 0 (MQ below (mm_qi G Q) args s 0 0 G.2.2.2.1) (F0 m 205 ls [.int xs0, .int xs1, .int xs2, .ref (G.2.2.1 36)]) := by
  obtain ⟨hx, hb, hr, hlocks, hml, hown, hg, hK, hC⟩ := id hcx
  unfold vc_X7_node_205 at hv
  refine va_calli (va_runV (As := [.int xs2, .int xs1, .int xs0]) (rest := []) ⟨hx, hb, hml, hown, hg⟩ (m_X7_high l G xs2 xs1 xs0 I L _  hv) (cwV 3 hg (mm_gV k_234 k_235 k_236 k_223 kc_X7_high) rfl rfl rfl (by decide +kernel) ⟨Nat.le_of_ble_eq_true rfl, Nat.le_of_ble_eq_true rfl⟩) ⟨mm_blind, mm_recv hK hP (t := 36) (by decide) rfl rfl, fun U hU hW => mm_call hP hK hD hC hU hS hW⟩ rfl rfl hl.1 rfl (lv_room (Nat.le_of_ble_eq_true rfl)) d_X7_node_205 ⟨Nat.zero_le _, Nat.zero_le _⟩) hS (fun q _ h => h) (fun q h => h) (fun r577 u t H locs ht hvm hv hP hz1 hk1 hS => ?_)
  obtain ⟨I575, L576⟩ := u
  dsimp only at hv hP
  rw [ht] at hP
  have hD : mm_DW G I575 L576 := mm_D_any hD
  refine lv_istore (lv' := [(7, .int r577), (0, .ref (G.2.2.1 36)), (1, .int x1), (2, .int x2), (3, .int x3), (4, .int x4), (6, .int x6), (10, .int x10)]) hx hb d_X7_node_208 hl (by decide) rfl (fun ls hl => ?_)
  refine lv_aload_n hx hb d_X7_node_210 rfl (lv_at hl 1 rfl) ?_
  refine lv_iload hx hb d_X7_node_211 (lv_at hl 0 rfl) ?_
  refine lv_iload hx hb d_X7_node_213 (lv_at hl 7 rfl) ?_
  refine lv_iload hx hb d_X7_node_215 (lv_at hl 7 rfl) ?_
  refine lv_if_eq (tgt := 230) hx hb d_X7_node_217 (by decide) (fun hc => ?_) (fun hc => ?_)
  · have hv := hv.1 hc
    refine lv_iconst (v := 0) hx hb d_X7_node_230 (by decide) ?_
    exact w_X7_node_231 hcx x1 x2 x3 x4 x6 0 x10 r577 I575 L576 Q  hv hP hD hS (lv_sub hl [1, 2, 3, 4, 5, 6] rfl)
  · have hv := hv.2 hc
    refine lv_aload_n hx hb d_X7_node_220 rfl (lv_at hl 1 rfl) ?_
    refine mm_gr (D := G.1) (C := RX7) (T := TX7) (N0 := 21) (r := 42) hx hb hg in_X7 hown hK hP (t := 36) (by decide) rfl rfl 7 (by decide) (hg _ k_237) (fun _ h9 => h9) rfl d_X7_node_221 ?_
    refine lv_iload hx hb d_X7_node_224 (lv_at hl 5 rfl) ?_
    obtain ⟨h578, hv⟩ := hv
    refine mm_iald (D := G.1) hx hb hK hP (t := 42) (by decide) rfl rfl h578 d_X7_node_226 ?_
    refine lv_goto (tgt := 231) hx hb d_X7_node_227 (by decide) ?_
    exact w_X7_node_231 hcx x1 x2 x3 x4 x6 (I575 42 x4.toNatClampNeg) x10 r577 I575 L576 Q  hv hP hD hS (lv_sub hl [1, 2, 3, 4, 5, 6] rfl)
set_option maxHeartbeats 4000000 in
set_option maxRecDepth 100000 in
theorem w_X7_node_180 {p : Program} {l : Launch} {e : Env} {s : State} {m : MethodId} {args : Array Value} {below : List Frame} {meth : Method} {c : Code} {G : mm_G} (hcx : mm_cx c_X7_node (some .int) 11 RX7 G p s m args meth c) (x1 : Int32) (x2 : Int32) (x3 : Int32) (x4 : Int32) (x6 : Int32) (x9 : Int32) (x10 : Int32) (xs0 : Int32) (xs1 : Int32) (xs2 : Int32) (I : mm_I) (L : mm_L) (Q : Int32 → mm_I → mm_L → Prop)  (hv : vc_X7_node_180 x1 x2 x3 x4 x6 x9 x10 xs0 xs1 xs2 I L Q) {H : Heap} {locs : List Loc} (hP : mm_PW G I L H) (hD : mm_DW G I L) (hS : va_S G.2.2.2.1 s.heap H locs) {ls : Array Slot} (hl : lv_has ls 11 [(0, .ref (G.2.2.1 36)), (1, .int x1), (2, .int x2), (3, .int x3), (4, .int x4), (6, .int x6), (9, .int x9), (10, .int x10)]) : W p l e (headSpec w_X7_node rm_X7_node).room s m args below meth c H locs 0 0 (MQ below (mm_qi G Q) args s 0 0 G.2.2.2.1) (F0 m 180 ls [.int xs0, .int xs1, .int xs2, .ref (G.2.2.1 36)]) := by
  obtain ⟨hx, hb, hr, hlocks, hml, hown, hg, hK, hC⟩ := id hcx
  unfold vc_X7_node_180 at hv
  refine va_calli (va_runV (As := [.int xs2, .int xs1, .int xs0]) (rest := []) ⟨hx, hb, hml, hown, hg⟩ (m_X7_high l G xs2 xs1 xs0 I L _  hv) (cwV 3 hg (mm_gV k_234 k_235 k_236 k_223 kc_X7_high) rfl rfl rfl (by decide +kernel) ⟨Nat.le_of_ble_eq_true rfl, Nat.le_of_ble_eq_true rfl⟩) ⟨mm_blind, mm_recv hK hP (t := 36) (by decide) rfl rfl, fun U hU hW => mm_call hP hK hD hC hU hS hW⟩ rfl rfl hl.1 rfl (lv_room (Nat.le_of_ble_eq_true rfl)) d_X7_node_180 ⟨Nat.zero_le _, Nat.zero_le _⟩) hS (fun q _ h => h) (fun q h => h) (fun r573 u t H locs ht hvm hv hP hz1 hk1 hS => ?_)
  obtain ⟨I571, L572⟩ := u
  dsimp only at hv hP
  rw [ht] at hP
  have hD : mm_DW G I571 L572 := mm_D_any hD
  refine lv_istore (lv' := [(7, .int r573), (0, .ref (G.2.2.1 36)), (1, .int x1), (2, .int x2), (3, .int x3), (4, .int x4), (6, .int x6), (9, .int x9), (10, .int x10)]) hx hb d_X7_node_183 hl (by decide) rfl (fun ls hl => ?_)
  refine lv_aload_n hx hb d_X7_node_185 rfl (lv_at hl 1 rfl) ?_
  refine lv_iload hx hb d_X7_node_186 (lv_at hl 0 rfl) ?_
  refine lv_iload hx hb d_X7_node_188 (lv_at hl 7 rfl) ?_
  refine lv_iload hx hb d_X7_node_190 (lv_at hl 7 rfl) ?_
  refine lv_if_eq (tgt := 204) hx hb d_X7_node_192 (by decide) (fun hc => ?_) (fun hc => ?_)
  · have hv := hv.1 hc
    refine lv_iconst (v := 0) hx hb d_X7_node_204 (by decide) ?_
    exact w_X7_node_205 hcx x1 x2 x3 x4 x6 x10 0 x9 r573 I571 L572 Q  hv hP hD hS (lv_sub hl [1, 2, 3, 4, 5, 6, 8] rfl)
  · have hv := hv.2 hc
    refine lv_aload_n hx hb d_X7_node_195 rfl (lv_at hl 1 rfl) ?_
    refine mm_gr (D := G.1) (C := RX7) (T := TX7) (N0 := 21) (r := 42) hx hb hg in_X7 hown hK hP (t := 36) (by decide) rfl rfl 7 (by decide) (hg _ k_237) (fun _ h9 => h9) rfl d_X7_node_196 ?_
    refine lv_iload_n hx hb d_X7_node_199 rfl (lv_at hl 4 rfl) ?_
    obtain ⟨h574, hv⟩ := hv
    refine mm_iald (D := G.1) hx hb hK hP (t := 42) (by decide) rfl rfl h574 d_X7_node_200 ?_
    refine lv_goto (tgt := 205) hx hb d_X7_node_201 (by decide) ?_
    exact w_X7_node_205 hcx x1 x2 x3 x4 x6 x10 (I571 42 x3.toNatClampNeg) x9 r573 I571 L572 Q  hv hP hD hS (lv_sub hl [1, 2, 3, 4, 5, 6, 8] rfl)
set_option maxHeartbeats 4000000 in
set_option maxRecDepth 100000 in
theorem w_X7_node_155 {p : Program} {l : Launch} {e : Env} {s : State} {m : MethodId} {args : Array Value} {below : List Frame} {meth : Method} {c : Code} {G : mm_G} (hcx : mm_cx c_X7_node (some .int) 11 RX7 G p s m args meth c) (x1 : Int32) (x2 : Int32) (x3 : Int32) (x4 : Int32) (x7 : Int32) (x8 : Int32) (x9 : Int32) (x10 : Int32) (xs0 : Int32) (xs1 : Int32) (xs2 : Int32) (I : mm_I) (L : mm_L) (Q : Int32 → mm_I → mm_L → Prop)  (hv : vc_X7_node_155 x1 x2 x3 x4 x7 x8 x9 x10 xs0 xs1 xs2 I L Q) {H : Heap} {locs : List Loc} (hP : mm_PW G I L H) (hD : mm_DW G I L) (hS : va_S G.2.2.2.1 s.heap H locs) {ls : Array Slot} (hl : lv_has ls 11 [(0, .ref (G.2.2.1 36)), (1, .int x1), (2, .int x2), (3, .int x3), (4, .int x4), (7, .int x7), (8, .int x8), (9, .int x9), (10, .int x10)]) : W p l e (headSpec w_X7_node rm_X7_node).room s m args below meth c H locs 0 0 (MQ below (mm_qi G Q) args s 0 0 G.2.2.2.1) (F0 m 155 ls [.int xs0, .int xs1, .int xs2, .ref (G.2.2.1 36)]) := by
  obtain ⟨hx, hb, hr, hlocks, hml, hown, hg, hK, hC⟩ := id hcx
  unfold vc_X7_node_155 at hv
  refine va_calli (va_runV (As := [.int xs2, .int xs1, .int xs0]) (rest := []) ⟨hx, hb, hml, hown, hg⟩ (m_X7_high l G xs2 xs1 xs0 I L _  hv) (cwV 3 hg (mm_gV k_234 k_235 k_236 k_223 kc_X7_high) rfl rfl rfl (by decide +kernel) ⟨Nat.le_of_ble_eq_true rfl, Nat.le_of_ble_eq_true rfl⟩) ⟨mm_blind, mm_recv hK hP (t := 36) (by decide) rfl rfl, fun U hU hW => mm_call hP hK hD hC hU hS hW⟩ rfl rfl hl.1 rfl (lv_room (Nat.le_of_ble_eq_true rfl)) d_X7_node_155 ⟨Nat.zero_le _, Nat.zero_le _⟩) hS (fun q _ h => h) (fun q h => h) (fun r569 u t H locs ht hvm hv hP hz1 hk1 hS => ?_)
  obtain ⟨I567, L568⟩ := u
  dsimp only at hv hP
  rw [ht] at hP
  have hD : mm_DW G I567 L568 := mm_D_any hD
  refine lv_istore (lv' := [(6, .int r569), (0, .ref (G.2.2.1 36)), (1, .int x1), (2, .int x2), (3, .int x3), (4, .int x4), (7, .int x7), (8, .int x8), (9, .int x9), (10, .int x10)]) hx hb d_X7_node_158 hl (by decide) rfl (fun ls hl => ?_)
  refine lv_aload_n hx hb d_X7_node_160 rfl (lv_at hl 1 rfl) ?_
  refine lv_iload hx hb d_X7_node_161 (lv_at hl 6 rfl) ?_
  refine lv_iload hx hb d_X7_node_163 (lv_at hl 7 rfl) ?_
  refine lv_iload hx hb d_X7_node_165 (lv_at hl 7 rfl) ?_
  refine lv_if_eq (tgt := 179) hx hb d_X7_node_167 (by decide) (fun hc => ?_) (fun hc => ?_)
  · have hv := hv.1 hc
    refine lv_iconst (v := 0) hx hb d_X7_node_179 (by decide) ?_
    exact w_X7_node_180 hcx x1 x2 x3 x4 r569 x9 x10 0 x8 x7 I567 L568 Q  hv hP hD hS (lv_sub hl [1, 2, 3, 4, 5, 0, 8, 9] rfl)
  · have hv := hv.2 hc
    refine lv_aload_n hx hb d_X7_node_170 rfl (lv_at hl 1 rfl) ?_
    refine mm_gr (D := G.1) (C := RX7) (T := TX7) (N0 := 21) (r := 42) hx hb hg in_X7 hown hK hP (t := 36) (by decide) rfl rfl 7 (by decide) (hg _ k_237) (fun _ h9 => h9) rfl d_X7_node_171 ?_
    refine lv_iload_n hx hb d_X7_node_174 rfl (lv_at hl 3 rfl) ?_
    obtain ⟨h570, hv⟩ := hv
    refine mm_iald (D := G.1) hx hb hK hP (t := 42) (by decide) rfl rfl h570 d_X7_node_175 ?_
    refine lv_goto (tgt := 180) hx hb d_X7_node_176 (by decide) ?_
    exact w_X7_node_180 hcx x1 x2 x3 x4 r569 x9 x10 (I567 42 x2.toNatClampNeg) x8 x7 I567 L568 Q  hv hP hD hS (lv_sub hl [1, 2, 3, 4, 5, 0, 8, 9] rfl)
set_option maxHeartbeats 4000000 in
set_option maxRecDepth 100000 in
theorem w_X7_node_129 {p : Program} {l : Launch} {e : Env} {s : State} {m : MethodId} {args : Array Value} {below : List Frame} {meth : Method} {c : Code} {G : mm_G} (hcx : mm_cx c_X7_node (some .int) 11 RX7 G p s m args meth c) (x1 : Int32) (x2 : Int32) (x3 : Int32) (x4 : Int32) (x7 : Int32) (x8 : Int32) (x9 : Int32) (x10 : Int32) (xs0 : Int32) (xs1 : Int32) (xs2 : Int32) (I : mm_I) (L : mm_L) (Q : Int32 → mm_I → mm_L → Prop)  (hv : vc_X7_node_129 x1 x2 x3 x4 x7 x8 x9 x10 xs0 xs1 xs2 I L Q) {H : Heap} {locs : List Loc} (hP : mm_PW G I L H) (hD : mm_DW G I L) (hS : va_S G.2.2.2.1 s.heap H locs) {ls : Array Slot} (hl : lv_has ls 11 [(0, .ref (G.2.2.1 36)), (1, .int x1), (2, .int x2), (3, .int x3), (4, .int x4), (7, .int x7), (8, .int x8), (9, .int x9), (10, .int x10)]) : W p l e (headSpec w_X7_node rm_X7_node).room s m args below meth c H locs 0 0 (MQ below (mm_qi G Q) args s 0 0 G.2.2.2.1) (F0 m 129 ls [.int xs0, .int xs1, .int xs2, .ref (G.2.2.1 36)]) := by
  obtain ⟨hx, hb, hr, hlocks, hml, hown, hg, hK, hC⟩ := id hcx
  unfold vc_X7_node_129 at hv
  refine va_calli (va_runV (As := [.int xs2, .int xs1, .int xs0]) (rest := []) ⟨hx, hb, hml, hown, hg⟩ (m_X7_high l G xs2 xs1 xs0 I L _  hv) (cwV 3 hg (mm_gV k_234 k_235 k_236 k_223 kc_X7_high) rfl rfl rfl (by decide +kernel) ⟨Nat.le_of_ble_eq_true rfl, Nat.le_of_ble_eq_true rfl⟩) ⟨mm_blind, mm_recv hK hP (t := 36) (by decide) rfl rfl, fun U hU hW => mm_call hP hK hD hC hU hS hW⟩ rfl rfl hl.1 rfl (lv_room (Nat.le_of_ble_eq_true rfl)) d_X7_node_129 ⟨Nat.zero_le _, Nat.zero_le _⟩) hS (fun q _ h => h) (fun q h => h) (fun r565 u t H locs ht hvm hv hP hz1 hk1 hS => ?_)
  obtain ⟨I563, L564⟩ := u
  dsimp only at hv hP
  rw [ht] at hP
  have hD : mm_DW G I563 L564 := mm_D_any hD
  refine lv_istore (lv' := [(6, .int r565), (0, .ref (G.2.2.1 36)), (1, .int x1), (2, .int x2), (3, .int x3), (4, .int x4), (7, .int x7), (8, .int x8), (9, .int x9), (10, .int x10)]) hx hb d_X7_node_132 hl (by decide) rfl (fun ls hl => ?_)
  refine lv_aload_n hx hb d_X7_node_134 rfl (lv_at hl 1 rfl) ?_
  refine lv_iload hx hb d_X7_node_135 (lv_at hl 0 rfl) ?_
  refine lv_iload hx hb d_X7_node_137 (lv_at hl 9 rfl) ?_
  refine lv_iload hx hb d_X7_node_139 (lv_at hl 9 rfl) ?_
  refine lv_if_eq (tgt := 154) hx hb d_X7_node_141 (by decide) (fun hc => ?_) (fun hc => ?_)
  · have hv := hv.1 hc
    refine lv_iconst (v := 0) hx hb d_X7_node_154 (by decide) ?_
    exact w_X7_node_155 hcx x1 x2 x3 x4 x7 x8 x9 x10 0 x10 r565 I563 L564 Q  hv hP hD hS (lv_sub hl [1, 2, 3, 4, 5, 6, 7, 8, 9] rfl)
  · have hv := hv.2 hc
    refine lv_aload_n hx hb d_X7_node_144 rfl (lv_at hl 1 rfl) ?_
    refine mm_gr (D := G.1) (C := RX7) (T := TX7) (N0 := 21) (r := 41) hx hb hg in_X7 hown hK hP (t := 36) (by decide) rfl rfl 6 (by decide) (hg _ k_233) (fun _ h9 => h9) rfl d_X7_node_145 ?_
    refine lv_iload hx hb d_X7_node_148 (lv_at hl 5 rfl) ?_
    obtain ⟨h566, hv⟩ := hv
    refine mm_iald (D := G.1) hx hb hK hP (t := 41) (by decide) rfl rfl h566 d_X7_node_150 ?_
    refine lv_goto (tgt := 155) hx hb d_X7_node_151 (by decide) ?_
    exact w_X7_node_155 hcx x1 x2 x3 x4 x7 x8 x9 x10 (I563 41 x4.toNatClampNeg) x10 r565 I563 L564 Q  hv hP hD hS (lv_sub hl [1, 2, 3, 4, 5, 6, 7, 8, 9] rfl)
set_option maxHeartbeats 4000000 in
set_option maxRecDepth 100000 in
theorem w_X7_node_104 {p : Program} {l : Launch} {e : Env} {s : State} {m : MethodId} {args : Array Value} {below : List Frame} {meth : Method} {c : Code} {G : mm_G} (hcx : mm_cx c_X7_node (some .int) 11 RX7 G p s m args meth c) (x1 : Int32) (x2 : Int32) (x3 : Int32) (x4 : Int32) (x7 : Int32) (x8 : Int32) (x9 : Int32) (x10 : Int32) (xs0 : Int32) (xs1 : Int32) (xs2 : Int32) (I : mm_I) (L : mm_L) (Q : Int32 → mm_I → mm_L → Prop)  (hv : vc_X7_node_104 x1 x2 x3 x4 x7 x8 x9 x10 xs0 xs1 xs2 I L Q) {H : Heap} {locs : List Loc} (hP : mm_PW G I L H) (hD : mm_DW G I L) (hS : va_S G.2.2.2.1 s.heap H locs) {ls : Array Slot} (hl : lv_has ls 11 [(0, .ref (G.2.2.1 36)), (1, .int x1), (2, .int x2), (3, .int x3), (4, .int x4), (7, .int x7), (8, .int x8), (9, .int x9), (10, .int x10)]) : W p l e (headSpec w_X7_node rm_X7_node).room s m args below meth c H locs 0 0 (MQ below (mm_qi G Q) args s 0 0 G.2.2.2.1) (F0 m 104 ls [.int xs0, .int xs1, .int xs2, .ref (G.2.2.1 36)]) := by
  obtain ⟨hx, hb, hr, hlocks, hml, hown, hg, hK, hC⟩ := id hcx
  unfold vc_X7_node_104 at hv
  refine va_calli (va_runV (As := [.int xs2, .int xs1, .int xs0]) (rest := []) ⟨hx, hb, hml, hown, hg⟩ (m_X7_high l G xs2 xs1 xs0 I L _  hv) (cwV 3 hg (mm_gV k_234 k_235 k_236 k_223 kc_X7_high) rfl rfl rfl (by decide +kernel) ⟨Nat.le_of_ble_eq_true rfl, Nat.le_of_ble_eq_true rfl⟩) ⟨mm_blind, mm_recv hK hP (t := 36) (by decide) rfl rfl, fun U hU hW => mm_call hP hK hD hC hU hS hW⟩ rfl rfl hl.1 rfl (lv_room (Nat.le_of_ble_eq_true rfl)) d_X7_node_104 ⟨Nat.zero_le _, Nat.zero_le _⟩) hS (fun q _ h => h) (fun q h => h) (fun r561 u t H locs ht hvm hv hP hz1 hk1 hS => ?_)
  obtain ⟨I559, L560⟩ := u
  dsimp only at hv hP
  rw [ht] at hP
  have hD : mm_DW G I559 L560 := mm_D_any hD
  refine lv_istore (lv' := [(6, .int r561), (0, .ref (G.2.2.1 36)), (1, .int x1), (2, .int x2), (3, .int x3), (4, .int x4), (7, .int x7), (8, .int x8), (9, .int x9), (10, .int x10)]) hx hb d_X7_node_107 hl (by decide) rfl (fun ls hl => ?_)
  refine lv_aload_n hx hb d_X7_node_109 rfl (lv_at hl 1 rfl) ?_
  refine lv_iload hx hb d_X7_node_110 (lv_at hl 0 rfl) ?_
  refine lv_iload hx hb d_X7_node_112 (lv_at hl 8 rfl) ?_
  refine lv_iload hx hb d_X7_node_114 (lv_at hl 8 rfl) ?_
  refine lv_if_eq (tgt := 128) hx hb d_X7_node_116 (by decide) (fun hc => ?_) (fun hc => ?_)
  · have hv := hv.1 hc
    refine lv_iconst (v := 0) hx hb d_X7_node_128 (by decide) ?_
    exact w_X7_node_129 hcx x1 x2 x3 x4 x7 x8 x9 x10 0 x9 r561 I559 L560 Q  hv hP hD hS (lv_sub hl [1, 2, 3, 4, 5, 6, 7, 8, 9] rfl)
  · have hv := hv.2 hc
    refine lv_aload_n hx hb d_X7_node_119 rfl (lv_at hl 1 rfl) ?_
    refine mm_gr (D := G.1) (C := RX7) (T := TX7) (N0 := 21) (r := 41) hx hb hg in_X7 hown hK hP (t := 36) (by decide) rfl rfl 6 (by decide) (hg _ k_233) (fun _ h9 => h9) rfl d_X7_node_120 ?_
    refine lv_iload_n hx hb d_X7_node_123 rfl (lv_at hl 4 rfl) ?_
    obtain ⟨h562, hv⟩ := hv
    refine mm_iald (D := G.1) hx hb hK hP (t := 41) (by decide) rfl rfl h562 d_X7_node_124 ?_
    refine lv_goto (tgt := 129) hx hb d_X7_node_125 (by decide) ?_
    exact w_X7_node_129 hcx x1 x2 x3 x4 x7 x8 x9 x10 (I559 41 x3.toNatClampNeg) x9 r561 I559 L560 Q  hv hP hD hS (lv_sub hl [1, 2, 3, 4, 5, 6, 7, 8, 9] rfl)
set_option maxHeartbeats 4000000 in
set_option maxRecDepth 100000 in
theorem w_X7_node_82 {p : Program} {l : Launch} {e : Env} {s : State} {m : MethodId} {args : Array Value} {below : List Frame} {meth : Method} {c : Code} {G : mm_G} (hcx : mm_cx c_X7_node (some .int) 11 RX7 G p s m args meth c) (x1 : Int32) (x2 : Int32) (x3 : Int32) (x4 : Int32) (x6 : Int32) (x7 : Int32) (x8 : Int32) (x9 : Int32) (xs0 : Int32) (I : mm_I) (L : mm_L) (Q : Int32 → mm_I → mm_L → Prop)  (hv : vc_X7_node_82 x1 x2 x3 x4 x6 x7 x8 x9 xs0 I L Q) {H : Heap} {locs : List Loc} (hP : mm_PW G I L H) (hD : mm_DW G I L) (hS : va_S G.2.2.2.1 s.heap H locs) {ls : Array Slot} (hl : lv_has ls 11 [(0, .ref (G.2.2.1 36)), (1, .int x1), (2, .int x2), (3, .int x3), (4, .int x4), (6, .int x6), (7, .int x7), (8, .int x8), (9, .int x9)]) : W p l e (headSpec w_X7_node rm_X7_node).room s m args below meth c H locs 0 0 (MQ below (mm_qi G Q) args s 0 0 G.2.2.2.1) (F0 m 82 ls [.int xs0]) := by
  obtain ⟨hx, hb, hr, hlocks, hml, hown, hg, hK, hC⟩ := id hcx
  unfold vc_X7_node_82 at hv
  refine lv_istore (lv' := [(10, .int xs0), (0, .ref (G.2.2.1 36)), (1, .int x1), (2, .int x2), (3, .int x3), (4, .int x4), (6, .int x6), (7, .int x7), (8, .int x8), (9, .int x9)]) hx hb d_X7_node_82 hl (by decide) rfl (fun ls hl => ?_)
  refine lv_aload_n hx hb d_X7_node_84 rfl (lv_at hl 1 rfl) ?_
  refine lv_iload hx hb d_X7_node_85 (lv_at hl 6 rfl) ?_
  refine lv_iload hx hb d_X7_node_87 (lv_at hl 8 rfl) ?_
  refine lv_iload hx hb d_X7_node_89 (lv_at hl 8 rfl) ?_
  refine lv_if_eq (tgt := 103) hx hb d_X7_node_91 (by decide) (fun hc => ?_) (fun hc => ?_)
  · have hv := hv.1 hc
    refine lv_iconst (v := 0) hx hb d_X7_node_103 (by decide) ?_
    exact w_X7_node_104 hcx x1 x2 x3 x4 x7 x8 x9 xs0 0 x8 x6 I L Q  hv hP hD hS (lv_sub hl [1, 2, 3, 4, 5, 7, 8, 9, 0] rfl)
  · have hv := hv.2 hc
    refine lv_aload_n hx hb d_X7_node_94 rfl (lv_at hl 1 rfl) ?_
    refine mm_gr (D := G.1) (C := RX7) (T := TX7) (N0 := 21) (r := 41) hx hb hg in_X7 hown hK hP (t := 36) (by decide) rfl rfl 6 (by decide) (hg _ k_233) (fun _ h9 => h9) rfl d_X7_node_95 ?_
    refine lv_iload_n hx hb d_X7_node_98 rfl (lv_at hl 3 rfl) ?_
    obtain ⟨h558, hv⟩ := hv
    refine mm_iald (D := G.1) hx hb hK hP (t := 41) (by decide) rfl rfl h558 d_X7_node_99 ?_
    refine lv_goto (tgt := 104) hx hb d_X7_node_100 (by decide) ?_
    exact w_X7_node_104 hcx x1 x2 x3 x4 x7 x8 x9 xs0 (I 41 x2.toNatClampNeg) x8 x6 I L Q  hv hP hD hS (lv_sub hl [1, 2, 3, 4, 5, 7, 8, 9, 0] rfl)
set_option maxHeartbeats 4000000 in
set_option maxRecDepth 100000 in
theorem w_X7_node_68 {p : Program} {l : Launch} {e : Env} {s : State} {m : MethodId} {args : Array Value} {below : List Frame} {meth : Method} {c : Code} {G : mm_G} (hcx : mm_cx c_X7_node (some .int) 11 RX7 G p s m args meth c) (x1 : Int32) (x2 : Int32) (x3 : Int32) (x4 : Int32) (x5 : Int32) (x6 : Int32) (x7 : Int32) (x8 : Int32) (xs0 : Int32) (I : mm_I) (L : mm_L) (Q : Int32 → mm_I → mm_L → Prop)  (hv : vc_X7_node_68 x1 x2 x3 x4 x5 x6 x7 x8 xs0 I L Q) {H : Heap} {locs : List Loc} (hP : mm_PW G I L H) (hD : mm_DW G I L) (hS : va_S G.2.2.2.1 s.heap H locs) {ls : Array Slot} (hl : lv_has ls 11 [(0, .ref (G.2.2.1 36)), (1, .int x1), (2, .int x2), (3, .int x3), (4, .int x4), (5, .int x5), (6, .int x6), (7, .int x7), (8, .int x8)]) : W p l e (headSpec w_X7_node rm_X7_node).room s m args below meth c H locs 0 0 (MQ below (mm_qi G Q) args s 0 0 G.2.2.2.1) (F0 m 68 ls [.int xs0]) := by
  obtain ⟨hx, hb, hr, hlocks, hml, hown, hg, hK, hC⟩ := id hcx
  unfold vc_X7_node_68 at hv
  refine lv_istore (lv' := [(9, .int xs0), (0, .ref (G.2.2.1 36)), (1, .int x1), (2, .int x2), (3, .int x3), (4, .int x4), (5, .int x5), (6, .int x6), (7, .int x7), (8, .int x8)]) hx hb d_X7_node_68 hl (by decide) rfl (fun ls hl => ?_)
  refine lv_iload hx hb d_X7_node_70 (lv_at hl 6 rfl) ?_
  refine lv_iconst (v := 4) hx hb d_X7_node_72 (by decide) ?_
  refine lv_iand hx hb d_X7_node_73 ?_
  refine lv_if_eq (tgt := 81) hx hb d_X7_node_74 (by decide) (fun hc => ?_) (fun hc => ?_)
  · have hv := hv.1 hc
    refine lv_iconst (v := 0) hx hb d_X7_node_81 (by decide) ?_
    exact w_X7_node_82 hcx x1 x2 x3 x4 x6 x7 x8 xs0 0 I L Q  hv hP hD hS (lv_sub hl [1, 2, 3, 4, 5, 7, 8, 9, 0] rfl)
  · have hv := hv.2 hc
    refine lv_iconst (v := 1) hx hb d_X7_node_77 (by decide) ?_
    refine lv_goto (tgt := 82) hx hb d_X7_node_78 (by decide) ?_
    exact w_X7_node_82 hcx x1 x2 x3 x4 x6 x7 x8 xs0 1 I L Q  hv hP hD hS (lv_sub hl [1, 2, 3, 4, 5, 7, 8, 9, 0] rfl)
set_option maxHeartbeats 4000000 in
set_option maxRecDepth 100000 in
theorem w_X7_node_54 {p : Program} {l : Launch} {e : Env} {s : State} {m : MethodId} {args : Array Value} {below : List Frame} {meth : Method} {c : Code} {G : mm_G} (hcx : mm_cx c_X7_node (some .int) 11 RX7 G p s m args meth c) (x1 : Int32) (x2 : Int32) (x3 : Int32) (x4 : Int32) (x5 : Int32) (x6 : Int32) (x7 : Int32) (xs0 : Int32) (I : mm_I) (L : mm_L) (Q : Int32 → mm_I → mm_L → Prop)  (hv : vc_X7_node_54 x1 x2 x3 x4 x5 x6 x7 xs0 I L Q) {H : Heap} {locs : List Loc} (hP : mm_PW G I L H) (hD : mm_DW G I L) (hS : va_S G.2.2.2.1 s.heap H locs) {ls : Array Slot} (hl : lv_has ls 11 [(0, .ref (G.2.2.1 36)), (1, .int x1), (2, .int x2), (3, .int x3), (4, .int x4), (5, .int x5), (6, .int x6), (7, .int x7)]) : W p l e (headSpec w_X7_node rm_X7_node).room s m args below meth c H locs 0 0 (MQ below (mm_qi G Q) args s 0 0 G.2.2.2.1) (F0 m 54 ls [.int xs0]) := by
  obtain ⟨hx, hb, hr, hlocks, hml, hown, hg, hK, hC⟩ := id hcx
  unfold vc_X7_node_54 at hv
  refine lv_istore (lv' := [(8, .int xs0), (0, .ref (G.2.2.1 36)), (1, .int x1), (2, .int x2), (3, .int x3), (4, .int x4), (5, .int x5), (6, .int x6), (7, .int x7)]) hx hb d_X7_node_54 hl (by decide) rfl (fun ls hl => ?_)
  refine lv_iload hx hb d_X7_node_56 (lv_at hl 6 rfl) ?_
  refine lv_iconst (v := 2) hx hb d_X7_node_58 (by decide) ?_
  refine lv_iand hx hb d_X7_node_59 ?_
  refine lv_if_eq (tgt := 67) hx hb d_X7_node_60 (by decide) (fun hc => ?_) (fun hc => ?_)
  · have hv := hv.1 hc
    refine lv_iconst (v := 0) hx hb d_X7_node_67 (by decide) ?_
    exact w_X7_node_68 hcx x1 x2 x3 x4 x5 x6 x7 xs0 0 I L Q  hv hP hD hS (lv_sub hl [1, 2, 3, 4, 5, 6, 7, 8, 0] rfl)
  · have hv := hv.2 hc
    refine lv_iconst (v := 1) hx hb d_X7_node_63 (by decide) ?_
    refine lv_goto (tgt := 68) hx hb d_X7_node_64 (by decide) ?_
    exact w_X7_node_68 hcx x1 x2 x3 x4 x5 x6 x7 xs0 1 I L Q  hv hP hD hS (lv_sub hl [1, 2, 3, 4, 5, 6, 7, 8, 0] rfl)
set_option maxHeartbeats 4000000 in
set_option maxRecDepth 100000 in
theorem w_X7_node_53 {p : Program} {l : Launch} {e : Env} {s : State} {m : MethodId} {args : Array Value} {below : List Frame} {meth : Method} {c : Code} {G : mm_G} (hcx : mm_cx c_X7_node (some .int) 11 RX7 G p s m args meth c) (x1 : Int32) (x2 : Int32) (x3 : Int32) (x4 : Int32) (x5 : Int32) (x6 : Int32) (x7 : Int32) (I : mm_I) (L : mm_L) (Q : Int32 → mm_I → mm_L → Prop)  (hv : vc_X7_node_53 x1 x2 x3 x4 x5 x6 x7 I L Q) {H : Heap} {locs : List Loc} (hP : mm_PW G I L H) (hD : mm_DW G I L) (hS : va_S G.2.2.2.1 s.heap H locs) {ls : Array Slot} (hl : lv_has ls 11 [(0, .ref (G.2.2.1 36)), (1, .int x1), (2, .int x2), (3, .int x3), (4, .int x4), (5, .int x5), (6, .int x6), (7, .int x7)]) : W p l e (headSpec w_X7_node rm_X7_node).room s m args below meth c H locs 0 0 (MQ below (mm_qi G Q) args s 0 0 G.2.2.2.1) (F0 m 53 ls []) := by
  obtain ⟨hx, hb, hr, hlocks, hml, hown, hg, hK, hC⟩ := id hcx
  unfold vc_X7_node_53 at hv
  refine lv_iconst (v := 0) hx hb d_X7_node_53 (by decide) ?_
  exact w_X7_node_54 hcx x1 x2 x3 x4 x5 x6 x7 0 I L Q  hv hP hD hS (lv_sub hl [0, 1, 2, 3, 4, 5, 6, 7] rfl)
set_option maxHeartbeats 4000000 in
set_option maxRecDepth 100000 in
theorem w_X7_node_36 {p : Program} {l : Launch} {e : Env} {s : State} {m : MethodId} {args : Array Value} {below : List Frame} {meth : Method} {c : Code} {G : mm_G} (hcx : mm_cx c_X7_node (some .int) 11 RX7 G p s m args meth c) (x1 : Int32) (x2 : Int32) (x3 : Int32) (x4 : Int32) (x5 : Int32) (x6 : Int32) (xs0 : Int32) (I : mm_I) (L : mm_L) (Q : Int32 → mm_I → mm_L → Prop)  (hv : vc_X7_node_36 x1 x2 x3 x4 x5 x6 xs0 I L Q) {H : Heap} {locs : List Loc} (hP : mm_PW G I L H) (hD : mm_DW G I L) (hS : va_S G.2.2.2.1 s.heap H locs) {ls : Array Slot} (hl : lv_has ls 11 [(0, .ref (G.2.2.1 36)), (1, .int x1), (2, .int x2), (3, .int x3), (4, .int x4), (5, .int x5), (6, .int x6)]) : W p l e (headSpec w_X7_node rm_X7_node).room s m args below meth c H locs 0 0 (MQ below (mm_qi G Q) args s 0 0 G.2.2.2.1) (F0 m 36 ls [.int xs0]) := by
  obtain ⟨hx, hb, hr, hlocks, hml, hown, hg, hK, hC⟩ := id hcx
  unfold vc_X7_node_36 at hv
  refine lv_istore (lv' := [(7, .int xs0), (0, .ref (G.2.2.1 36)), (1, .int x1), (2, .int x2), (3, .int x3), (4, .int x4), (5, .int x5), (6, .int x6)]) hx hb d_X7_node_36 hl (by decide) rfl (fun ls hl => ?_)
  refine lv_iload hx hb d_X7_node_38 (lv_at hl 6 rfl) ?_
  refine lv_iconst (v := 1) hx hb d_X7_node_40 (by decide) ?_
  refine lv_iand hx hb d_X7_node_41 ?_
  refine lv_if_eq (tgt := 53) hx hb d_X7_node_42 (by decide) (fun hc => ?_) (fun hc => ?_)
  · have hv := hv.1 hc
    exact w_X7_node_53 hcx x1 x2 x3 x4 x5 x6 xs0 I L Q  hv hP hD hS (lv_sub hl [1, 2, 3, 4, 5, 6, 7, 0] rfl)
  · have hv := hv.2 hc
    refine lv_iload_n hx hb d_X7_node_45 rfl (lv_at hl 3 rfl) ?_
    refine lv_if_lt (tgt := 53) hx hb d_X7_node_46 (by decide) (fun hc => ?_) (fun hc => ?_)
    · have hv := hv.1 hc
      exact w_X7_node_53 hcx x1 x2 x3 x4 x5 x6 xs0 I L Q  hv hP hD hS (lv_sub hl [1, 2, 3, 4, 5, 6, 7, 0] rfl)
    · have hv := hv.2 hc
      refine lv_iconst (v := 1) hx hb d_X7_node_49 (by decide) ?_
      refine lv_goto (tgt := 54) hx hb d_X7_node_50 (by decide) ?_
      exact w_X7_node_54 hcx x1 x2 x3 x4 x5 x6 xs0 1 I L Q  hv hP hD hS (lv_sub hl [1, 2, 3, 4, 5, 6, 7, 0] rfl)
set_option maxHeartbeats 4000000 in
set_option maxRecDepth 100000 in
theorem w_X7_node_0 {p : Program} {l : Launch} {e : Env} {s : State} {m : MethodId} {args : Array Value} {below : List Frame} {meth : Method} {c : Code} {G : mm_G} (hcx : mm_cx c_X7_node (some .int) 11 RX7 G p s m args meth c) (x1 : Int32) (x2 : Int32) (x3 : Int32) (x4 : Int32) (I : mm_I) (L : mm_L) (Q : Int32 → mm_I → mm_L → Prop)  (hv : vc_X7_node_0 x1 x2 x3 x4 I L Q) {H : Heap} {locs : List Loc} (hP : mm_PW G I L H) (hD : mm_DW G I L) (hS : va_S G.2.2.2.1 s.heap H locs) {ls : Array Slot} (hl : lv_has ls 11 [(0, .ref (G.2.2.1 36)), (1, .int x1), (2, .int x2), (3, .int x3), (4, .int x4)]) : W p l e (headSpec w_X7_node rm_X7_node).room s m args below meth c H locs 0 0 (MQ below (mm_qi G Q) args s 0 0 G.2.2.2.1) (F0 m 0 ls []) := by
  obtain ⟨hx, hb, hr, hlocks, hml, hown, hg, hK, hC⟩ := id hcx
  unfold vc_X7_node_0 at hv
  refine lv_aload_n hx hb d_X7_node_0 rfl (lv_at hl 0 rfl) ?_
  refine lv_iload_n hx hb d_X7_node_1 rfl (lv_at hl 1 rfl) ?_
  refine lv_iload_n hx hb d_X7_node_2 rfl (lv_at hl 2 rfl) ?_
  refine lv_iload_n hx hb d_X7_node_3 rfl (lv_at hl 3 rfl) ?_
  refine lv_iload hx hb d_X7_node_4 (lv_at hl 4 rfl) ?_
  refine va_calli (va_runV (As := [.int x1, .int x2, .int x3, .int x4]) (rest := []) ⟨hx, hb, hml, hown, hg⟩ (m_X7_fits l G x1 x2 x3 x4 I L _  hv) (cwV 4 hg (mm_gV k_230 k_231 k_232 k_223 kc_X7_fits) rfl rfl rfl (by decide +kernel) ⟨Nat.le_of_ble_eq_true rfl, Nat.le_of_ble_eq_true rfl⟩) ⟨mm_blind, mm_recv hK hP (t := 36) (by decide) rfl rfl, fun U hU hW => mm_call hP hK hD hC hU hS hW⟩ rfl rfl hl.1 rfl (lv_room (Nat.le_of_ble_eq_true rfl)) d_X7_node_6 ⟨Nat.zero_le _, Nat.zero_le _⟩) hS (fun q _ h => h) (fun q h => h) (fun r554 u t H locs ht hvm hv hP hz1 hk1 hS => ?_)
  obtain ⟨I552, L553⟩ := u
  dsimp only at hv hP
  rw [ht] at hP
  have hD : mm_DW G I552 L553 := mm_D_any hD
  refine lv_if_ne (tgt := 14) hx hb d_X7_node_9 (by decide) (fun hc => ?_) (fun hc => ?_)
  · have hv := hv.1 hc
    refine lv_aload_n hx hb d_X7_node_14 rfl (lv_at hl 0 rfl) ?_
    refine lv_iload_n hx hb d_X7_node_15 rfl (lv_at hl 1 rfl) ?_
    refine va_calli (va_runV (As := [.int x1]) (rest := []) ⟨hx, hb, hml, hown, hg⟩ (m_X7_named l G x1 I552 L553 _  hv) (cwV 1 hg (mm_gV k_227 k_228 k_229 k_223 kc_X7_named) rfl rfl rfl (by decide +kernel) ⟨Nat.le_of_ble_eq_true rfl, Nat.le_of_ble_eq_true rfl⟩) ⟨mm_blind, mm_recv hK hP (t := 36) (by decide) rfl rfl, fun U hU hW => mm_call hP hK hD hC hU hS hW⟩ rfl rfl hl.1 rfl (lv_room (Nat.le_of_ble_eq_true rfl)) d_X7_node_16 ⟨Nat.zero_le _, Nat.zero_le _⟩) hS (fun q _ h => h) (fun q h => h) (fun r557 u t H locs ht hvm hv hP hz1 hk1 hS => ?_)
    obtain ⟨I555, L556⟩ := u
    dsimp only at hv hP
    rw [ht] at hP
    have hD : mm_DW G I555 L556 := mm_D_any hD
    refine lv_istore (lv' := [(5, .int r557), (0, .ref (G.2.2.1 36)), (1, .int x1), (2, .int x2), (3, .int x3), (4, .int x4)]) hx hb d_X7_node_19 hl (by decide) rfl (fun ls hl => ?_)
    refine lv_iconst (v := 0) hx hb d_X7_node_21 (by decide) ?_
    refine lv_istore (lv' := [(6, .int 0), (5, .int r557), (0, .ref (G.2.2.1 36)), (1, .int x1), (2, .int x2), (3, .int x3), (4, .int x4)]) hx hb d_X7_node_22 hl (by decide) rfl (fun ls hl => ?_)
    refine lv_iload_n hx hb d_X7_node_24 rfl (lv_at hl 3 rfl) ?_
    refine lv_iconst (v := 2) hx hb d_X7_node_25 (by decide) ?_
    refine lv_icmp_ne (tgt := 35) hx hb d_X7_node_26 (by decide) (fun hc => ?_) (fun hc => ?_)
    · have hv := hv.1 hc
      refine lv_iconst (v := 0) hx hb d_X7_node_35 (by decide) ?_
      exact w_X7_node_36 hcx x1 x2 x3 x4 r557 0 0 I555 L556 Q  hv hP hD hS (lv_sub hl [2, 3, 4, 5, 6, 1, 0] rfl)
    · have hv := hv.2 hc
      refine lv_iload_n hx hb d_X7_node_29 rfl (lv_at hl 4 rfl) ?_
      refine lv_iconst (v := 1) hx hb d_X7_node_30 (by decide) ?_
      refine lv_iadd hx hb d_X7_node_31 ?_
      refine lv_goto (tgt := 36) hx hb d_X7_node_32 (by decide) ?_
      exact w_X7_node_36 hcx x1 x2 x3 x4 r557 0 (x2 + 1) I555 L556 Q  hv hP hD hS (lv_sub hl [2, 3, 4, 5, 6, 1, 0] rfl)
  · have hv := hv.2 hc
    refine lv_iconst (v := (-1)) hx hb d_X7_node_12 (by decide) ?_
    exact W.iret (v := (-1)) hx hb hr (fun t ht hW => ⟨⟨(-1), (I552, L553), rfl, hv, mm_mv ht hP⟩, hS.F ht⟩) hS.2.2 d_X7_node_13
abbrev vc_X7_node (x1 : Int32) (x2 : Int32) (x3 : Int32) (x4 : Int32) (I : mm_I) (L : mm_L) (Q : Int32 → mm_I → mm_L → Prop) : Prop := vc_X7_node_0 x1 x2 x3 x4 I L Q
set_option maxHeartbeats 4000000 in
set_option maxRecDepth 100000 in
theorem m_X7_node (l : Launch) (G : mm_G) (x1 : Int32) (x2 : Int32) (x3 : Int32) (x4 : Int32) (I : mm_I) (L : mm_L) (Q : Int32 → mm_I → mm_L → Prop)  (hv : vc_X7_node x1 x2 x3 x4 I L Q) : Met l y_X7_node w_X7_node rm_X7_node (mm_pre G [.ref (G.2.2.1 36), .int x1, .int x2, .int x3, .int x4] I L) (mm_qi G Q) 0 0 G.2.2.2.1 := by
  refine Met.ofW (cc := c_X7_node) (maxL := 11) (ret := (some .int)) (by decide) rfl ?_
  intro p e s m args below meth c s₁ B hml hw
  obtain ⟨rfl, hP, hK, hD, hC⟩ := hw
  have hts := atoms_spec (ws := w_X7_node) B.pre
  have hown : s.vm.findClass RX7 = some m.cls := findClass_of_methodNamed B.named
  have hl := lv_entry ([.ref (G.2.2.1 36), .int x1, .int x2, .int x3, .int x4]) (n := 11) (Nat.le_of_ble_eq_true rfl)
  rw [lg_entry_eq]
  generalize (lg_sl ([.ref (G.2.2.1 36), .int x1, .int x2, .int x3, .int x4]) ++ List.replicate (11 - (lg_sl ([.ref (G.2.2.1 36), .int x1, .int x2, .int x3, .int x4])).length) Slot.unset).toArray = ls at hl ⊢
  have hl : lv_has ls 11 [(0, .ref (G.2.2.1 36)), (1, .int x1), (2, .int x2), (3, .int x3), (4, .int x4)] := hl
  exact w_X7_node_0 ⟨B.exec, B.bytes, B.returns, B.notSynchronized, hml, hown, fun w h => hts w (List.mem_cons_of_mem _ h), hK, hC⟩ x1 x2 x3 x4 I L Q  hv hP hD va_S.rf hl
abbrev rm_X7_define : Room := { frames := 1, cells := 0, slots := 0, locals := 23 }
def vc_X7_define_0 (x1 : Int32) (x2 : Int32) (I : mm_I) (L : mm_L) (Q : Int32 → mm_I → mm_L → Prop) : Prop :=
  vc_X7_out x1 0 7 I L (fun r590 I588 L589 => (¬ r590 = 0 → Q (-1) I588 L589) ∧ (r590 = 0 → vc_X7_isNode x2 I588 L589 (fun r593 I591 L592 => (r593 = 0 → Q (-1) I591 L592) ∧ (¬ r593 = 0 → vp_in x2 70 ∧ ((I591 42 x2.toNatClampNeg) ≤ x1 → vp_in x1 8 ∧ Q 0 (mm_uI I591 43 x1.toNatClampNeg x2) L592) ∧ (¬ (I591 42 x2.toNatClampNeg) ≤ x1 → Q (-1) I591 L592)))))
set_option maxHeartbeats 4000000 in
set_option maxRecDepth 100000 in
theorem w_X7_define_0 {p : Program} {l : Launch} {e : Env} {s : State} {m : MethodId} {args : Array Value} {below : List Frame} {meth : Method} {c : Code} {G : mm_G} (hcx : mm_cx c_X7_define (some .int) 3 RX7 G p s m args meth c) (x1 : Int32) (x2 : Int32) (I : mm_I) (L : mm_L) (Q : Int32 → mm_I → mm_L → Prop)  (hv : vc_X7_define_0 x1 x2 I L Q) {H : Heap} {locs : List Loc} (hP : mm_PW G I L H) (hD : mm_DW G I L) (hS : va_S G.2.2.2.1 s.heap H locs) {ls : Array Slot} (hl : lv_has ls 3 [(0, .ref (G.2.2.1 36)), (1, .int x1), (2, .int x2)]) : W p l e (headSpec w_X7_define rm_X7_define).room s m args below meth c H locs 0 0 (MQ below (mm_qi G Q) args s 0 0 G.2.2.2.1) (F0 m 0 ls []) := by
  obtain ⟨hx, hb, hr, hlocks, hml, hown, hg, hK, hC⟩ := id hcx
  unfold vc_X7_define_0 at hv
  refine lv_aload_n hx hb d_X7_define_0 rfl (lv_at hl 0 rfl) ?_
  refine lv_iload_n hx hb d_X7_define_1 rfl (lv_at hl 1 rfl) ?_
  refine lv_iconst (v := 0) hx hb d_X7_define_2 (by decide) ?_
  refine lv_bipush (v := 7) hx hb d_X7_define_3 (by decide) ?_
  refine va_calli (va_runV (As := [.int x1, .int 0, .int 7]) (rest := []) ⟨hx, hb, hml, hown, hg⟩ (m_X7_out l G x1 0 7 I L _  hv) (cwV 3 hg (mm_gV k_220 k_221 k_222 k_223 kc_X7_out) rfl rfl rfl (by decide +kernel) ⟨Nat.le_of_ble_eq_true rfl, Nat.le_of_ble_eq_true rfl⟩) ⟨mm_blind, mm_recv hK hP (t := 36) (by decide) rfl rfl, fun U hU hW => mm_call hP hK hD hC hU hS hW⟩ rfl rfl hl.1 rfl (lv_room (Nat.le_of_ble_eq_true rfl)) d_X7_define_5 ⟨Nat.zero_le _, Nat.zero_le _⟩) hS (fun q _ h => h) (fun q h => h) (fun r590 u t H locs ht hvm hv hP hz1 hk1 hS => ?_)
  obtain ⟨I588, L589⟩ := u
  dsimp only at hv hP
  rw [ht] at hP
  have hD : mm_DW G I588 L589 := mm_D_any hD
  refine lv_if_ne (tgt := 29) hx hb d_X7_define_8 (by decide) (fun hc => ?_) (fun hc => ?_)
  · have hv := hv.1 hc
    refine lv_iconst (v := (-1)) hx hb d_X7_define_29 (by decide) ?_
    exact W.iret (v := (-1)) hx hb hr (fun t ht hW => ⟨⟨(-1), (I588, L589), rfl, hv, mm_mv ht hP⟩, hS.F ht⟩) hS.2.2 d_X7_define_30
  · have hv := hv.2 hc
    refine lv_aload_n hx hb d_X7_define_11 rfl (lv_at hl 0 rfl) ?_
    refine lv_iload_n hx hb d_X7_define_12 rfl (lv_at hl 2 rfl) ?_
    refine va_calli (va_runV (As := [.int x2]) (rest := []) ⟨hx, hb, hml, hown, hg⟩ (m_X7_isNode l G x2 I588 L589 _  hv) (cwV 1 hg (mm_gV k_224 k_225 k_226 k_223 kc_X7_isNode) rfl rfl rfl (by decide +kernel) ⟨Nat.le_of_ble_eq_true rfl, Nat.le_of_ble_eq_true rfl⟩) ⟨mm_blind, mm_recv hK hP (t := 36) (by decide) rfl rfl, fun U hU hW => mm_call hP hK hD hC hU hS hW⟩ rfl rfl hl.1 rfl (lv_room (Nat.le_of_ble_eq_true rfl)) d_X7_define_13 ⟨Nat.zero_le _, Nat.zero_le _⟩) hS (fun q _ h => h) (fun q h => h) (fun r593 u t H locs ht hvm hv hP hz1 hk1 hS => ?_)
    obtain ⟨I591, L592⟩ := u
    dsimp only at hv hP
    rw [ht] at hP
    have hD : mm_DW G I591 L592 := mm_D_any hD
    refine lv_if_eq (tgt := 29) hx hb d_X7_define_16 (by decide) (fun hc => ?_) (fun hc => ?_)
    · have hv := hv.1 hc
      refine lv_iconst (v := (-1)) hx hb d_X7_define_29 (by decide) ?_
      exact W.iret (v := (-1)) hx hb hr (fun t ht hW => ⟨⟨(-1), (I591, L592), rfl, hv, mm_mv ht hP⟩, hS.F ht⟩) hS.2.2 d_X7_define_30
    · have hv := hv.2 hc
      refine lv_aload_n hx hb d_X7_define_19 rfl (lv_at hl 0 rfl) ?_
      refine mm_gr (D := G.1) (C := RX7) (T := TX7) (N0 := 21) (r := 42) hx hb hg in_X7 hown hK hP (t := 36) (by decide) rfl rfl 7 (by decide) (hg _ k_237) (fun _ h9 => h9) rfl d_X7_define_20 ?_
      refine lv_iload_n hx hb d_X7_define_23 rfl (lv_at hl 2 rfl) ?_
      obtain ⟨h594, hv⟩ := hv
      refine mm_iald (D := G.1) hx hb hK hP (t := 42) (by decide) rfl rfl h594 d_X7_define_24 ?_
      refine lv_iload_n hx hb d_X7_define_25 rfl (lv_at hl 1 rfl) ?_
      refine lv_icmp_le (tgt := 31) hx hb d_X7_define_26 (by decide) (fun hc => ?_) (fun hc => ?_)
      · have hv := hv.1 hc
        refine lv_aload_n hx hb d_X7_define_31 rfl (lv_at hl 0 rfl) ?_
        refine mm_gr (D := G.1) (C := RX7) (T := TX7) (N0 := 21) (r := 43) hx hb hg in_X7 hown hK hP (t := 36) (by decide) rfl rfl 8 (by decide) (hg _ k_242) (fun _ h9 => h9) rfl d_X7_define_32 ?_
        refine lv_iload_n hx hb d_X7_define_35 rfl (lv_at hl 1 rfl) ?_
        refine lv_iload_n hx hb d_X7_define_36 rfl (lv_at hl 2 rfl) ?_
        obtain ⟨h595, hv⟩ := hv
        refine mm_iast (D := G.1) hx hb hK hP hD hS (t := 43) (by decide) rfl rfl h595 d_X7_define_37 (fun H locs hP hD hS => ?_)
        refine lv_iconst (v := 0) hx hb d_X7_define_38 (by decide) ?_
        exact W.iret (v := 0) hx hb hr (fun t ht hW => ⟨⟨0, ((mm_uI I591 43 x1.toNatClampNeg x2), L592), rfl, hv, mm_mv ht hP⟩, hS.F ht⟩) hS.2.2 d_X7_define_39
      · have hv := hv.2 hc
        refine lv_iconst (v := (-1)) hx hb d_X7_define_29 (by decide) ?_
        exact W.iret (v := (-1)) hx hb hr (fun t ht hW => ⟨⟨(-1), (I591, L592), rfl, hv, mm_mv ht hP⟩, hS.F ht⟩) hS.2.2 d_X7_define_30
abbrev vc_X7_define (x1 : Int32) (x2 : Int32) (I : mm_I) (L : mm_L) (Q : Int32 → mm_I → mm_L → Prop) : Prop := vc_X7_define_0 x1 x2 I L Q
set_option maxHeartbeats 4000000 in
set_option maxRecDepth 100000 in
theorem m_X7_define (l : Launch) (G : mm_G) (x1 : Int32) (x2 : Int32) (I : mm_I) (L : mm_L) (Q : Int32 → mm_I → mm_L → Prop)  (hv : vc_X7_define x1 x2 I L Q) : Met l y_X7_define w_X7_define rm_X7_define (mm_pre G [.ref (G.2.2.1 36), .int x1, .int x2] I L) (mm_qi G Q) 0 0 G.2.2.2.1 := by
  refine Met.ofW (cc := c_X7_define) (maxL := 3) (ret := (some .int)) (by decide) rfl ?_
  intro p e s m args below meth c s₁ B hml hw
  obtain ⟨rfl, hP, hK, hD, hC⟩ := hw
  have hts := atoms_spec (ws := w_X7_define) B.pre
  have hown : s.vm.findClass RX7 = some m.cls := findClass_of_methodNamed B.named
  have hl := lv_entry ([.ref (G.2.2.1 36), .int x1, .int x2]) (n := 3) (Nat.le_of_ble_eq_true rfl)
  rw [lg_entry_eq]
  generalize (lg_sl ([.ref (G.2.2.1 36), .int x1, .int x2]) ++ List.replicate (3 - (lg_sl ([.ref (G.2.2.1 36), .int x1, .int x2])).length) Slot.unset).toArray = ls at hl ⊢
  have hl : lv_has ls 3 [(0, .ref (G.2.2.1 36)), (1, .int x1), (2, .int x2)] := hl
  exact w_X7_define_0 ⟨B.exec, B.bytes, B.returns, B.notSynchronized, hml, hown, fun w h => hts w (List.mem_cons_of_mem _ h), hK, hC⟩ x1 x2 I L Q  hv hP hD va_S.rf hl
abbrev rm_X7_undefine : Room := { frames := 1, cells := 0, slots := 0, locals := 23 }
def vc_X7_undefine_0 (x1 : Int32) (I : mm_I) (L : mm_L) (Q : Int32 → mm_I → mm_L → Prop) : Prop :=
  vc_X7_out x1 0 7 I L (fun r598 I596 L597 => (r598 = 0 → vp_in x1 8 ∧ Q 0 (mm_uI I596 43 x1.toNatClampNeg (-1)) L597) ∧ (¬ r598 = 0 → Q (-1) I596 L597))
set_option maxHeartbeats 4000000 in
set_option maxRecDepth 100000 in
theorem w_X7_undefine_0 {p : Program} {l : Launch} {e : Env} {s : State} {m : MethodId} {args : Array Value} {below : List Frame} {meth : Method} {c : Code} {G : mm_G} (hcx : mm_cx c_X7_undefine (some .int) 2 RX7 G p s m args meth c) (x1 : Int32) (I : mm_I) (L : mm_L) (Q : Int32 → mm_I → mm_L → Prop)  (hv : vc_X7_undefine_0 x1 I L Q) {H : Heap} {locs : List Loc} (hP : mm_PW G I L H) (hD : mm_DW G I L) (hS : va_S G.2.2.2.1 s.heap H locs) {ls : Array Slot} (hl : lv_has ls 2 [(0, .ref (G.2.2.1 36)), (1, .int x1)]) : W p l e (headSpec w_X7_undefine rm_X7_undefine).room s m args below meth c H locs 0 0 (MQ below (mm_qi G Q) args s 0 0 G.2.2.2.1) (F0 m 0 ls []) := by
  obtain ⟨hx, hb, hr, hlocks, hml, hown, hg, hK, hC⟩ := id hcx
  unfold vc_X7_undefine_0 at hv
  refine lv_aload_n hx hb d_X7_undefine_0 rfl (lv_at hl 0 rfl) ?_
  refine lv_iload_n hx hb d_X7_undefine_1 rfl (lv_at hl 1 rfl) ?_
  refine lv_iconst (v := 0) hx hb d_X7_undefine_2 (by decide) ?_
  refine lv_bipush (v := 7) hx hb d_X7_undefine_3 (by decide) ?_
  refine va_calli (va_runV (As := [.int x1, .int 0, .int 7]) (rest := []) ⟨hx, hb, hml, hown, hg⟩ (m_X7_out l G x1 0 7 I L _  hv) (cwV 3 hg (mm_gV k_220 k_221 k_222 k_223 kc_X7_out) rfl rfl rfl (by decide +kernel) ⟨Nat.le_of_ble_eq_true rfl, Nat.le_of_ble_eq_true rfl⟩) ⟨mm_blind, mm_recv hK hP (t := 36) (by decide) rfl rfl, fun U hU hW => mm_call hP hK hD hC hU hS hW⟩ rfl rfl hl.1 rfl (lv_room (Nat.le_of_ble_eq_true rfl)) d_X7_undefine_5 ⟨Nat.zero_le _, Nat.zero_le _⟩) hS (fun q _ h => h) (fun q h => h) (fun r598 u t H locs ht hvm hv hP hz1 hk1 hS => ?_)
  obtain ⟨I596, L597⟩ := u
  dsimp only at hv hP
  rw [ht] at hP
  have hD : mm_DW G I596 L597 := mm_D_any hD
  refine lv_if_eq (tgt := 13) hx hb d_X7_undefine_8 (by decide) (fun hc => ?_) (fun hc => ?_)
  · have hv := hv.1 hc
    refine lv_aload_n hx hb d_X7_undefine_13 rfl (lv_at hl 0 rfl) ?_
    refine mm_gr (D := G.1) (C := RX7) (T := TX7) (N0 := 21) (r := 43) hx hb hg in_X7 hown hK hP (t := 36) (by decide) rfl rfl 8 (by decide) (hg _ k_242) (fun _ h9 => h9) rfl d_X7_undefine_14 ?_
    refine lv_iload_n hx hb d_X7_undefine_17 rfl (lv_at hl 1 rfl) ?_
    refine lv_iconst (v := (-1)) hx hb d_X7_undefine_18 (by decide) ?_
    obtain ⟨h599, hv⟩ := hv
    refine mm_iast (D := G.1) hx hb hK hP hD hS (t := 43) (by decide) rfl rfl h599 d_X7_undefine_19 (fun H locs hP hD hS => ?_)
    refine lv_iconst (v := 0) hx hb d_X7_undefine_20 (by decide) ?_
    exact W.iret (v := 0) hx hb hr (fun t ht hW => ⟨⟨0, ((mm_uI I596 43 x1.toNatClampNeg (-1)), L597), rfl, hv, mm_mv ht hP⟩, hS.F ht⟩) hS.2.2 d_X7_undefine_21
  · have hv := hv.2 hc
    refine lv_iconst (v := (-1)) hx hb d_X7_undefine_11 (by decide) ?_
    exact W.iret (v := (-1)) hx hb hr (fun t ht hW => ⟨⟨(-1), (I596, L597), rfl, hv, mm_mv ht hP⟩, hS.F ht⟩) hS.2.2 d_X7_undefine_12
abbrev vc_X7_undefine (x1 : Int32) (I : mm_I) (L : mm_L) (Q : Int32 → mm_I → mm_L → Prop) : Prop := vc_X7_undefine_0 x1 I L Q
set_option maxHeartbeats 4000000 in
set_option maxRecDepth 100000 in
theorem m_X7_undefine (l : Launch) (G : mm_G) (x1 : Int32) (I : mm_I) (L : mm_L) (Q : Int32 → mm_I → mm_L → Prop)  (hv : vc_X7_undefine x1 I L Q) : Met l y_X7_undefine w_X7_undefine rm_X7_undefine (mm_pre G [.ref (G.2.2.1 36), .int x1] I L) (mm_qi G Q) 0 0 G.2.2.2.1 := by
  refine Met.ofW (cc := c_X7_undefine) (maxL := 2) (ret := (some .int)) (by decide) rfl ?_
  intro p e s m args below meth c s₁ B hml hw
  obtain ⟨rfl, hP, hK, hD, hC⟩ := hw
  have hts := atoms_spec (ws := w_X7_undefine) B.pre
  have hown : s.vm.findClass RX7 = some m.cls := findClass_of_methodNamed B.named
  have hl := lv_entry ([.ref (G.2.2.1 36), .int x1]) (n := 2) (Nat.le_of_ble_eq_true rfl)
  rw [lg_entry_eq]
  generalize (lg_sl ([.ref (G.2.2.1 36), .int x1]) ++ List.replicate (2 - (lg_sl ([.ref (G.2.2.1 36), .int x1])).length) Slot.unset).toArray = ls at hl ⊢
  have hl : lv_has ls 2 [(0, .ref (G.2.2.1 36)), (1, .int x1)] := hl
  exact w_X7_undefine_0 ⟨B.exec, B.bytes, B.returns, B.notSynchronized, hml, hown, fun w h => hts w (List.mem_cons_of_mem _ h), hK, hC⟩ x1 I L Q  hv hP hD va_S.rf hl
abbrev rm_X7_step : Room := { frames := 1, cells := 0, slots := 0, locals := 23 }
def vc_X7_step_59 (x1 : Int32) (x2 : Int32) (x3 : Int32) (I : mm_I) (L : mm_L) (Q : Int32 → mm_I → mm_L → Prop) : Prop :=
  vp_in x1 2 ∧ (¬ (I 44 x1.toNatClampNeg) = 5 → vp_in x1 2 ∧ vp_in ((x1 * 5) + (I 44 x1.toNatClampNeg)) 10 ∧ vp_in x1 2 ∧ vp_in ((x1 * 5) + ((mm_uI I 45 (((x1 * 5) + (I 44 x1.toNatClampNeg))).toNatClampNeg x2) 44 x1.toNatClampNeg)) 10 ∧ vp_in x1 2 ∧ vp_in x1 2 ∧ vp_in x1 2 ∧ Q ((mm_uI (mm_uI (mm_uI I 45 (((x1 * 5) + (I 44 x1.toNatClampNeg))).toNatClampNeg x2) 46 (((x1 * 5) + ((mm_uI I 45 (((x1 * 5) + (I 44 x1.toNatClampNeg))).toNatClampNeg x2) 44 x1.toNatClampNeg))).toNatClampNeg x3) 44 x1.toNatClampNeg (((mm_uI (mm_uI I 45 (((x1 * 5) + (I 44 x1.toNatClampNeg))).toNatClampNeg x2) 46 (((x1 * 5) + ((mm_uI I 45 (((x1 * 5) + (I 44 x1.toNatClampNeg))).toNatClampNeg x2) 44 x1.toNatClampNeg))).toNatClampNeg x3) 44 x1.toNatClampNeg) + 1)) 44 x1.toNatClampNeg) (mm_uI (mm_uI (mm_uI I 45 (((x1 * 5) + (I 44 x1.toNatClampNeg))).toNatClampNeg x2) 46 (((x1 * 5) + ((mm_uI I 45 (((x1 * 5) + (I 44 x1.toNatClampNeg))).toNatClampNeg x2) 44 x1.toNatClampNeg))).toNatClampNeg x3) 44 x1.toNatClampNeg (((mm_uI (mm_uI I 45 (((x1 * 5) + (I 44 x1.toNatClampNeg))).toNatClampNeg x2) 46 (((x1 * 5) + ((mm_uI I 45 (((x1 * 5) + (I 44 x1.toNatClampNeg))).toNatClampNeg x2) 44 x1.toNatClampNeg))).toNatClampNeg x3) 44 x1.toNatClampNeg) + 1)) L) ∧ ((I 44 x1.toNatClampNeg) = 5 → Q (-2) I L)
def vc_X7_step_0 (x1 : Int32) (x2 : Int32) (x3 : Int32) (I : mm_I) (L : mm_L) (Q : Int32 → mm_I → mm_L → Prop) : Prop :=
  vc_X7_out x1 0 1 I L (fun r602 I600 L601 => (¬ r602 = 0 → Q (-1) I600 L601) ∧ (r602 = 0 → (x2 < 1 → Q (-1) I600 L601) ∧ (¬ x2 < 1 → vc_X7_out x3 0 1000 I600 L601 (fun r605 I603 L604 => (¬ r605 = 0 → Q (-1) I603 L604) ∧ (r605 = 0 → vp_in x1 2 ∧ ((I603 44 x1.toNatClampNeg) ≤ 0 → vc_X7_step_59 x1 x2 x3 I603 L604 Q) ∧ (¬ (I603 44 x1.toNatClampNeg) ≤ 0 → vp_in x1 2 ∧ vp_in (((x1 * 5) + (I603 44 x1.toNatClampNeg)) - 1) 10 ∧ ((I603 45 ((((x1 * 5) + (I603 44 x1.toNatClampNeg)) - 1)).toNatClampNeg) < x2 → vc_X7_step_59 x1 x2 x3 I603 L604 Q) ∧ (¬ (I603 45 ((((x1 * 5) + (I603 44 x1.toNatClampNeg)) - 1)).toNatClampNeg) < x2 → Q (-1) I603 L604)))))))
set_option maxHeartbeats 4000000 in
set_option maxRecDepth 100000 in
theorem w_X7_step_59 {p : Program} {l : Launch} {e : Env} {s : State} {m : MethodId} {args : Array Value} {below : List Frame} {meth : Method} {c : Code} {G : mm_G} (hcx : mm_cx c_X7_step (some .int) 4 RX7 G p s m args meth c) (x1 : Int32) (x2 : Int32) (x3 : Int32) (I : mm_I) (L : mm_L) (Q : Int32 → mm_I → mm_L → Prop)  (hv : vc_X7_step_59 x1 x2 x3 I L Q) {H : Heap} {locs : List Loc} (hP : mm_PW G I L H) (hD : mm_DW G I L) (hS : va_S G.2.2.2.1 s.heap H locs) {ls : Array Slot} (hl : lv_has ls 4 [(0, .ref (G.2.2.1 36)), (1, .int x1), (2, .int x2), (3, .int x3)]) : W p l e (headSpec w_X7_step rm_X7_step).room s m args below meth c H locs 0 0 (MQ below (mm_qi G Q) args s 0 0 G.2.2.2.1) (F0 m 59 ls []) := by
  obtain ⟨hx, hb, hr, hlocks, hml, hown, hg, hK, hC⟩ := id hcx
  unfold vc_X7_step_59 at hv
  refine lv_aload_n hx hb d_X7_step_59 rfl (lv_at hl 0 rfl) ?_
  refine mm_gr (D := G.1) (C := RX7) (T := TX7) (N0 := 21) (r := 44) hx hb hg in_X7 hown hK hP (t := 36) (by decide) rfl rfl 9 (by decide) (hg _ k_243) (fun _ h9 => h9) rfl d_X7_step_60 ?_
  refine lv_iload_n hx hb d_X7_step_63 rfl (lv_at hl 1 rfl) ?_
  obtain ⟨h609, hv⟩ := hv
  refine mm_iald (D := G.1) hx hb hK hP (t := 44) (by decide) rfl rfl h609 d_X7_step_64 ?_
  refine lv_iconst (v := 5) hx hb d_X7_step_65 (by decide) ?_
  refine lv_icmp_ne (tgt := 72) hx hb d_X7_step_66 (by decide) (fun hc => ?_) (fun hc => ?_)
  · have hv := hv.1 hc
    refine lv_aload_n hx hb d_X7_step_72 rfl (lv_at hl 0 rfl) ?_
    refine mm_gr (D := G.1) (C := RX7) (T := TX7) (N0 := 21) (r := 45) hx hb hg in_X7 hown hK hP (t := 36) (by decide) rfl rfl 10 (by decide) (hg _ k_244) (fun _ h9 => h9) rfl d_X7_step_73 ?_
    refine lv_iload_n hx hb d_X7_step_76 rfl (lv_at hl 1 rfl) ?_
    refine lv_iconst (v := 5) hx hb d_X7_step_77 (by decide) ?_
    refine lv_imul hx hb d_X7_step_78 ?_
    refine lv_aload_n hx hb d_X7_step_79 rfl (lv_at hl 0 rfl) ?_
    refine mm_gr (D := G.1) (C := RX7) (T := TX7) (N0 := 21) (r := 44) hx hb hg in_X7 hown hK hP (t := 36) (by decide) rfl rfl 9 (by decide) (hg _ k_243) (fun _ h9 => h9) rfl d_X7_step_80 ?_
    refine lv_iload_n hx hb d_X7_step_83 rfl (lv_at hl 1 rfl) ?_
    obtain ⟨h610, hv⟩ := hv
    refine mm_iald (D := G.1) hx hb hK hP (t := 44) (by decide) rfl rfl h610 d_X7_step_84 ?_
    refine lv_iadd hx hb d_X7_step_85 ?_
    refine lv_iload_n hx hb d_X7_step_86 rfl (lv_at hl 2 rfl) ?_
    obtain ⟨h611, hv⟩ := hv
    refine mm_iast (D := G.1) hx hb hK hP hD hS (t := 45) (by decide) rfl rfl h611 d_X7_step_87 (fun H locs hP hD hS => ?_)
    refine lv_aload_n hx hb d_X7_step_88 rfl (lv_at hl 0 rfl) ?_
    refine mm_gr (D := G.1) (C := RX7) (T := TX7) (N0 := 21) (r := 46) hx hb hg in_X7 hown hK hP (t := 36) (by decide) rfl rfl 11 (by decide) (hg _ k_245) (fun _ h9 => h9) rfl d_X7_step_89 ?_
    refine lv_iload_n hx hb d_X7_step_92 rfl (lv_at hl 1 rfl) ?_
    refine lv_iconst (v := 5) hx hb d_X7_step_93 (by decide) ?_
    refine lv_imul hx hb d_X7_step_94 ?_
    refine lv_aload_n hx hb d_X7_step_95 rfl (lv_at hl 0 rfl) ?_
    refine mm_gr (D := G.1) (C := RX7) (T := TX7) (N0 := 21) (r := 44) hx hb hg in_X7 hown hK hP (t := 36) (by decide) rfl rfl 9 (by decide) (hg _ k_243) (fun _ h9 => h9) rfl d_X7_step_96 ?_
    refine lv_iload_n hx hb d_X7_step_99 rfl (lv_at hl 1 rfl) ?_
    obtain ⟨h612, hv⟩ := hv
    refine mm_iald (D := G.1) hx hb hK hP (t := 44) (by decide) rfl rfl h612 d_X7_step_100 ?_
    refine lv_iadd hx hb d_X7_step_101 ?_
    refine lv_iload_n hx hb d_X7_step_102 rfl (lv_at hl 3 rfl) ?_
    obtain ⟨h613, hv⟩ := hv
    refine mm_iast (D := G.1) hx hb hK hP hD hS (t := 46) (by decide) rfl rfl h613 d_X7_step_103 (fun H locs hP hD hS => ?_)
    refine lv_aload_n hx hb d_X7_step_104 rfl (lv_at hl 0 rfl) ?_
    refine mm_gr (D := G.1) (C := RX7) (T := TX7) (N0 := 21) (r := 44) hx hb hg in_X7 hown hK hP (t := 36) (by decide) rfl rfl 9 (by decide) (hg _ k_243) (fun _ h9 => h9) rfl d_X7_step_105 ?_
    refine lv_iload_n hx hb d_X7_step_108 rfl (lv_at hl 1 rfl) ?_
    refine lv_dup2_11 hx hb d_X7_step_109 rfl rfl ?_
    obtain ⟨h614, hv⟩ := hv
    refine mm_iald (D := G.1) hx hb hK hP (t := 44) (by decide) rfl rfl h614 d_X7_step_110 ?_
    refine lv_iconst (v := 1) hx hb d_X7_step_111 (by decide) ?_
    refine lv_iadd hx hb d_X7_step_112 ?_
    obtain ⟨h615, hv⟩ := hv
    refine mm_iast (D := G.1) hx hb hK hP hD hS (t := 44) (by decide) rfl rfl h615 d_X7_step_113 (fun H locs hP hD hS => ?_)
    refine lv_aload_n hx hb d_X7_step_114 rfl (lv_at hl 0 rfl) ?_
    refine mm_gr (D := G.1) (C := RX7) (T := TX7) (N0 := 21) (r := 44) hx hb hg in_X7 hown hK hP (t := 36) (by decide) rfl rfl 9 (by decide) (hg _ k_243) (fun _ h9 => h9) rfl d_X7_step_115 ?_
    refine lv_iload_n hx hb d_X7_step_118 rfl (lv_at hl 1 rfl) ?_
    obtain ⟨h616, hv⟩ := hv
    refine mm_iald (D := G.1) hx hb hK hP (t := 44) (by decide) rfl rfl h616 d_X7_step_119 ?_
    exact W.iret (v := ((mm_uI (mm_uI (mm_uI I 45 (((x1 * 5) + (I 44 x1.toNatClampNeg))).toNatClampNeg x2) 46 (((x1 * 5) + ((mm_uI I 45 (((x1 * 5) + (I 44 x1.toNatClampNeg))).toNatClampNeg x2) 44 x1.toNatClampNeg))).toNatClampNeg x3) 44 x1.toNatClampNeg (((mm_uI (mm_uI I 45 (((x1 * 5) + (I 44 x1.toNatClampNeg))).toNatClampNeg x2) 46 (((x1 * 5) + ((mm_uI I 45 (((x1 * 5) + (I 44 x1.toNatClampNeg))).toNatClampNeg x2) 44 x1.toNatClampNeg))).toNatClampNeg x3) 44 x1.toNatClampNeg) + 1)) 44 x1.toNatClampNeg)) hx hb hr (fun t ht hW => ⟨⟨((mm_uI (mm_uI (mm_uI I 45 (((x1 * 5) + (I 44 x1.toNatClampNeg))).toNatClampNeg x2) 46 (((x1 * 5) + ((mm_uI I 45 (((x1 * 5) + (I 44 x1.toNatClampNeg))).toNatClampNeg x2) 44 x1.toNatClampNeg))).toNatClampNeg x3) 44 x1.toNatClampNeg (((mm_uI (mm_uI I 45 (((x1 * 5) + (I 44 x1.toNatClampNeg))).toNatClampNeg x2) 46 (((x1 * 5) + ((mm_uI I 45 (((x1 * 5) + (I 44 x1.toNatClampNeg))).toNatClampNeg x2) 44 x1.toNatClampNeg))).toNatClampNeg x3) 44 x1.toNatClampNeg) + 1)) 44 x1.toNatClampNeg), ((mm_uI (mm_uI (mm_uI I 45 (((x1 * 5) + (I 44 x1.toNatClampNeg))).toNatClampNeg x2) 46 (((x1 * 5) + ((mm_uI I 45 (((x1 * 5) + (I 44 x1.toNatClampNeg))).toNatClampNeg x2) 44 x1.toNatClampNeg))).toNatClampNeg x3) 44 x1.toNatClampNeg (((mm_uI (mm_uI I 45 (((x1 * 5) + (I 44 x1.toNatClampNeg))).toNatClampNeg x2) 46 (((x1 * 5) + ((mm_uI I 45 (((x1 * 5) + (I 44 x1.toNatClampNeg))).toNatClampNeg x2) 44 x1.toNatClampNeg))).toNatClampNeg x3) 44 x1.toNatClampNeg) + 1)), L), rfl, hv, mm_mv ht hP⟩, hS.F ht⟩) hS.2.2 d_X7_step_120
  · have hv := hv.2 hc
    refine lv_bipush (v := (-2)) hx hb d_X7_step_69 (by decide) ?_
    exact W.iret (v := (-2)) hx hb hr (fun t ht hW => ⟨⟨(-2), (I, L), rfl, hv, mm_mv ht hP⟩, hS.F ht⟩) hS.2.2 d_X7_step_71
set_option maxHeartbeats 4000000 in
set_option maxRecDepth 100000 in
theorem w_X7_step_0 {p : Program} {l : Launch} {e : Env} {s : State} {m : MethodId} {args : Array Value} {below : List Frame} {meth : Method} {c : Code} {G : mm_G} (hcx : mm_cx c_X7_step (some .int) 4 RX7 G p s m args meth c) (x1 : Int32) (x2 : Int32) (x3 : Int32) (I : mm_I) (L : mm_L) (Q : Int32 → mm_I → mm_L → Prop)  (hv : vc_X7_step_0 x1 x2 x3 I L Q) {H : Heap} {locs : List Loc} (hP : mm_PW G I L H) (hD : mm_DW G I L) (hS : va_S G.2.2.2.1 s.heap H locs) {ls : Array Slot} (hl : lv_has ls 4 [(0, .ref (G.2.2.1 36)), (1, .int x1), (2, .int x2), (3, .int x3)]) : W p l e (headSpec w_X7_step rm_X7_step).room s m args below meth c H locs 0 0 (MQ below (mm_qi G Q) args s 0 0 G.2.2.2.1) (F0 m 0 ls []) := by
  obtain ⟨hx, hb, hr, hlocks, hml, hown, hg, hK, hC⟩ := id hcx
  unfold vc_X7_step_0 at hv
  refine lv_aload_n hx hb d_X7_step_0 rfl (lv_at hl 0 rfl) ?_
  refine lv_iload_n hx hb d_X7_step_1 rfl (lv_at hl 1 rfl) ?_
  refine lv_iconst (v := 0) hx hb d_X7_step_2 (by decide) ?_
  refine lv_iconst (v := 1) hx hb d_X7_step_3 (by decide) ?_
  refine va_calli (va_runV (As := [.int x1, .int 0, .int 1]) (rest := []) ⟨hx, hb, hml, hown, hg⟩ (m_X7_out l G x1 0 1 I L _  hv) (cwV 3 hg (mm_gV k_220 k_221 k_222 k_223 kc_X7_out) rfl rfl rfl (by decide +kernel) ⟨Nat.le_of_ble_eq_true rfl, Nat.le_of_ble_eq_true rfl⟩) ⟨mm_blind, mm_recv hK hP (t := 36) (by decide) rfl rfl, fun U hU hW => mm_call hP hK hD hC hU hS hW⟩ rfl rfl hl.1 rfl (lv_room (Nat.le_of_ble_eq_true rfl)) d_X7_step_4 ⟨Nat.zero_le _, Nat.zero_le _⟩) hS (fun q _ h => h) (fun q h => h) (fun r602 u t H locs ht hvm hv hP hz1 hk1 hS => ?_)
  obtain ⟨I600, L601⟩ := u
  dsimp only at hv hP
  rw [ht] at hP
  have hD : mm_DW G I600 L601 := mm_D_any hD
  refine lv_if_ne (tgt := 57) hx hb d_X7_step_7 (by decide) (fun hc => ?_) (fun hc => ?_)
  · have hv := hv.1 hc
    refine lv_iconst (v := (-1)) hx hb d_X7_step_57 (by decide) ?_
    exact W.iret (v := (-1)) hx hb hr (fun t ht hW => ⟨⟨(-1), (I600, L601), rfl, hv, mm_mv ht hP⟩, hS.F ht⟩) hS.2.2 d_X7_step_58
  · have hv := hv.2 hc
    refine lv_iload_n hx hb d_X7_step_10 rfl (lv_at hl 2 rfl) ?_
    refine lv_iconst (v := 1) hx hb d_X7_step_11 (by decide) ?_
    refine lv_icmp_lt (tgt := 57) hx hb d_X7_step_12 (by decide) (fun hc => ?_) (fun hc => ?_)
    · have hv := hv.1 hc
      refine lv_iconst (v := (-1)) hx hb d_X7_step_57 (by decide) ?_
      exact W.iret (v := (-1)) hx hb hr (fun t ht hW => ⟨⟨(-1), (I600, L601), rfl, hv, mm_mv ht hP⟩, hS.F ht⟩) hS.2.2 d_X7_step_58
    · have hv := hv.2 hc
      refine lv_aload_n hx hb d_X7_step_15 rfl (lv_at hl 0 rfl) ?_
      refine lv_iload_n hx hb d_X7_step_16 rfl (lv_at hl 3 rfl) ?_
      refine lv_iconst (v := 0) hx hb d_X7_step_17 (by decide) ?_
      refine lv_sipush (v := 1000) hx hb d_X7_step_18 (by decide) ?_
      refine va_calli (va_runV (As := [.int x3, .int 0, .int 1000]) (rest := []) ⟨hx, hb, hml, hown, hg⟩ (m_X7_out l G x3 0 1000 I600 L601 _  hv) (cwV 3 hg (mm_gV k_220 k_221 k_222 k_223 kc_X7_out) rfl rfl rfl (by decide +kernel) ⟨Nat.le_of_ble_eq_true rfl, Nat.le_of_ble_eq_true rfl⟩) ⟨mm_blind, mm_recv hK hP (t := 36) (by decide) rfl rfl, fun U hU hW => mm_call hP hK hD hC hU hS hW⟩ rfl rfl hl.1 rfl (lv_room (Nat.le_of_ble_eq_true rfl)) d_X7_step_21 ⟨Nat.zero_le _, Nat.zero_le _⟩) hS (fun q _ h => h) (fun q h => h) (fun r605 u t H locs ht hvm hv hP hz1 hk1 hS => ?_)
      obtain ⟨I603, L604⟩ := u
      dsimp only at hv hP
      rw [ht] at hP
      have hD : mm_DW G I603 L604 := mm_D_any hD
      refine lv_if_ne (tgt := 57) hx hb d_X7_step_24 (by decide) (fun hc => ?_) (fun hc => ?_)
      · have hv := hv.1 hc
        refine lv_iconst (v := (-1)) hx hb d_X7_step_57 (by decide) ?_
        exact W.iret (v := (-1)) hx hb hr (fun t ht hW => ⟨⟨(-1), (I603, L604), rfl, hv, mm_mv ht hP⟩, hS.F ht⟩) hS.2.2 d_X7_step_58
      · have hv := hv.2 hc
        refine lv_aload_n hx hb d_X7_step_27 rfl (lv_at hl 0 rfl) ?_
        refine mm_gr (D := G.1) (C := RX7) (T := TX7) (N0 := 21) (r := 44) hx hb hg in_X7 hown hK hP (t := 36) (by decide) rfl rfl 9 (by decide) (hg _ k_243) (fun _ h9 => h9) rfl d_X7_step_28 ?_
        refine lv_iload_n hx hb d_X7_step_31 rfl (lv_at hl 1 rfl) ?_
        obtain ⟨h606, hv⟩ := hv
        refine mm_iald (D := G.1) hx hb hK hP (t := 44) (by decide) rfl rfl h606 d_X7_step_32 ?_
        refine lv_if_le (tgt := 59) hx hb d_X7_step_33 (by decide) (fun hc => ?_) (fun hc => ?_)
        · have hv := hv.1 hc
          exact w_X7_step_59 hcx x1 x2 x3 I603 L604 Q  hv hP hD hS (lv_sub hl [0, 1, 2, 3] rfl)
        · have hv := hv.2 hc
          refine lv_iload_n hx hb d_X7_step_36 rfl (lv_at hl 2 rfl) ?_
          refine lv_aload_n hx hb d_X7_step_37 rfl (lv_at hl 0 rfl) ?_
          refine mm_gr (D := G.1) (C := RX7) (T := TX7) (N0 := 21) (r := 45) hx hb hg in_X7 hown hK hP (t := 36) (by decide) rfl rfl 10 (by decide) (hg _ k_244) (fun _ h9 => h9) rfl d_X7_step_38 ?_
          refine lv_iload_n hx hb d_X7_step_41 rfl (lv_at hl 1 rfl) ?_
          refine lv_iconst (v := 5) hx hb d_X7_step_42 (by decide) ?_
          refine lv_imul hx hb d_X7_step_43 ?_
          refine lv_aload_n hx hb d_X7_step_44 rfl (lv_at hl 0 rfl) ?_
          refine mm_gr (D := G.1) (C := RX7) (T := TX7) (N0 := 21) (r := 44) hx hb hg in_X7 hown hK hP (t := 36) (by decide) rfl rfl 9 (by decide) (hg _ k_243) (fun _ h9 => h9) rfl d_X7_step_45 ?_
          refine lv_iload_n hx hb d_X7_step_48 rfl (lv_at hl 1 rfl) ?_
          obtain ⟨h607, hv⟩ := hv
          refine mm_iald (D := G.1) hx hb hK hP (t := 44) (by decide) rfl rfl h607 d_X7_step_49 ?_
          refine lv_iadd hx hb d_X7_step_50 ?_
          refine lv_iconst (v := 1) hx hb d_X7_step_51 (by decide) ?_
          refine lv_isub hx hb d_X7_step_52 ?_
          obtain ⟨h608, hv⟩ := hv
          refine mm_iald (D := G.1) hx hb hK hP (t := 45) (by decide) rfl rfl h608 d_X7_step_53 ?_
          refine lv_icmp_gt (tgt := 59) hx hb d_X7_step_54 (by decide) (fun hc => ?_) (fun hc => ?_)
          · have hv := hv.1 hc
            exact w_X7_step_59 hcx x1 x2 x3 I603 L604 Q  hv hP hD hS (lv_sub hl [0, 1, 2, 3] rfl)
          · have hv := hv.2 hc
            refine lv_iconst (v := (-1)) hx hb d_X7_step_57 (by decide) ?_
            exact W.iret (v := (-1)) hx hb hr (fun t ht hW => ⟨⟨(-1), (I603, L604), rfl, hv, mm_mv ht hP⟩, hS.F ht⟩) hS.2.2 d_X7_step_58
abbrev vc_X7_step (x1 : Int32) (x2 : Int32) (x3 : Int32) (I : mm_I) (L : mm_L) (Q : Int32 → mm_I → mm_L → Prop) : Prop := vc_X7_step_0 x1 x2 x3 I L Q
set_option maxHeartbeats 4000000 in
set_option maxRecDepth 100000 in
theorem m_X7_step (l : Launch) (G : mm_G) (x1 : Int32) (x2 : Int32) (x3 : Int32) (I : mm_I) (L : mm_L) (Q : Int32 → mm_I → mm_L → Prop)  (hv : vc_X7_step x1 x2 x3 I L Q) : Met l y_X7_step w_X7_step rm_X7_step (mm_pre G [.ref (G.2.2.1 36), .int x1, .int x2, .int x3] I L) (mm_qi G Q) 0 0 G.2.2.2.1 := by
  refine Met.ofW (cc := c_X7_step) (maxL := 4) (ret := (some .int)) (by decide) rfl ?_
  intro p e s m args below meth c s₁ B hml hw
  obtain ⟨rfl, hP, hK, hD, hC⟩ := hw
  have hts := atoms_spec (ws := w_X7_step) B.pre
  have hown : s.vm.findClass RX7 = some m.cls := findClass_of_methodNamed B.named
  have hl := lv_entry ([.ref (G.2.2.1 36), .int x1, .int x2, .int x3]) (n := 4) (Nat.le_of_ble_eq_true rfl)
  rw [lg_entry_eq]
  generalize (lg_sl ([.ref (G.2.2.1 36), .int x1, .int x2, .int x3]) ++ List.replicate (4 - (lg_sl ([.ref (G.2.2.1 36), .int x1, .int x2, .int x3])).length) Slot.unset).toArray = ls at hl ⊢
  have hl : lv_has ls 4 [(0, .ref (G.2.2.1 36)), (1, .int x1), (2, .int x2), (3, .int x3)] := hl
  exact w_X7_step_0 ⟨B.exec, B.bytes, B.returns, B.notSynchronized, hml, hown, fun w h => hts w (List.mem_cons_of_mem _ h), hK, hC⟩ x1 x2 x3 I L Q  hv hP hD va_S.rf hl
abbrev rm_X7_clear : Room := { frames := 1, cells := 0, slots := 0, locals := 23 }
def vc_X7_clear_0 (x1 : Int32) (I : mm_I) (L : mm_L) (Q : Int32 → mm_I → mm_L → Prop) : Prop :=
  vc_X7_out x1 0 1 I L (fun r619 I617 L618 => (r619 = 0 → vp_in x1 2 ∧ vp_in x1 2 ∧ Q (I617 44 x1.toNatClampNeg) (mm_uI I617 44 x1.toNatClampNeg 0) L618) ∧ (¬ r619 = 0 → Q (-1) I617 L618))
set_option maxHeartbeats 4000000 in
set_option maxRecDepth 100000 in
theorem w_X7_clear_0 {p : Program} {l : Launch} {e : Env} {s : State} {m : MethodId} {args : Array Value} {below : List Frame} {meth : Method} {c : Code} {G : mm_G} (hcx : mm_cx c_X7_clear (some .int) 3 RX7 G p s m args meth c) (x1 : Int32) (I : mm_I) (L : mm_L) (Q : Int32 → mm_I → mm_L → Prop)  (hv : vc_X7_clear_0 x1 I L Q) {H : Heap} {locs : List Loc} (hP : mm_PW G I L H) (hD : mm_DW G I L) (hS : va_S G.2.2.2.1 s.heap H locs) {ls : Array Slot} (hl : lv_has ls 3 [(0, .ref (G.2.2.1 36)), (1, .int x1)]) : W p l e (headSpec w_X7_clear rm_X7_clear).room s m args below meth c H locs 0 0 (MQ below (mm_qi G Q) args s 0 0 G.2.2.2.1) (F0 m 0 ls []) := by
  obtain ⟨hx, hb, hr, hlocks, hml, hown, hg, hK, hC⟩ := id hcx
  unfold vc_X7_clear_0 at hv
  refine lv_aload_n hx hb d_X7_clear_0 rfl (lv_at hl 0 rfl) ?_
  refine lv_iload_n hx hb d_X7_clear_1 rfl (lv_at hl 1 rfl) ?_
  refine lv_iconst (v := 0) hx hb d_X7_clear_2 (by decide) ?_
  refine lv_iconst (v := 1) hx hb d_X7_clear_3 (by decide) ?_
  refine va_calli (va_runV (As := [.int x1, .int 0, .int 1]) (rest := []) ⟨hx, hb, hml, hown, hg⟩ (m_X7_out l G x1 0 1 I L _  hv) (cwV 3 hg (mm_gV k_220 k_221 k_222 k_223 kc_X7_out) rfl rfl rfl (by decide +kernel) ⟨Nat.le_of_ble_eq_true rfl, Nat.le_of_ble_eq_true rfl⟩) ⟨mm_blind, mm_recv hK hP (t := 36) (by decide) rfl rfl, fun U hU hW => mm_call hP hK hD hC hU hS hW⟩ rfl rfl hl.1 rfl (lv_room (Nat.le_of_ble_eq_true rfl)) d_X7_clear_4 ⟨Nat.zero_le _, Nat.zero_le _⟩) hS (fun q _ h => h) (fun q h => h) (fun r619 u t H locs ht hvm hv hP hz1 hk1 hS => ?_)
  obtain ⟨I617, L618⟩ := u
  dsimp only at hv hP
  rw [ht] at hP
  have hD : mm_DW G I617 L618 := mm_D_any hD
  refine lv_if_eq (tgt := 12) hx hb d_X7_clear_7 (by decide) (fun hc => ?_) (fun hc => ?_)
  · have hv := hv.1 hc
    refine lv_aload_n hx hb d_X7_clear_12 rfl (lv_at hl 0 rfl) ?_
    refine mm_gr (D := G.1) (C := RX7) (T := TX7) (N0 := 21) (r := 44) hx hb hg in_X7 hown hK hP (t := 36) (by decide) rfl rfl 9 (by decide) (hg _ k_243) (fun _ h9 => h9) rfl d_X7_clear_13 ?_
    refine lv_iload_n hx hb d_X7_clear_16 rfl (lv_at hl 1 rfl) ?_
    obtain ⟨h620, hv⟩ := hv
    refine mm_iald (D := G.1) hx hb hK hP (t := 44) (by decide) rfl rfl h620 d_X7_clear_17 ?_
    refine lv_istore_n (lv' := [(2, .int (I617 44 x1.toNatClampNeg)), (0, .ref (G.2.2.1 36)), (1, .int x1)]) hx hb d_X7_clear_18 rfl hl (by decide) rfl (fun ls hl => ?_)
    refine lv_aload_n hx hb d_X7_clear_19 rfl (lv_at hl 1 rfl) ?_
    refine mm_gr (D := G.1) (C := RX7) (T := TX7) (N0 := 21) (r := 44) hx hb hg in_X7 hown hK hP (t := 36) (by decide) rfl rfl 9 (by decide) (hg _ k_243) (fun _ h9 => h9) rfl d_X7_clear_20 ?_
    refine lv_iload_n hx hb d_X7_clear_23 rfl (lv_at hl 2 rfl) ?_
    refine lv_iconst (v := 0) hx hb d_X7_clear_24 (by decide) ?_
    obtain ⟨h621, hv⟩ := hv
    refine mm_iast (D := G.1) hx hb hK hP hD hS (t := 44) (by decide) rfl rfl h621 d_X7_clear_25 (fun H locs hP hD hS => ?_)
    refine lv_iload_n hx hb d_X7_clear_26 rfl (lv_at hl 0 rfl) ?_
    exact W.iret (v := (I617 44 x1.toNatClampNeg)) hx hb hr (fun t ht hW => ⟨⟨(I617 44 x1.toNatClampNeg), ((mm_uI I617 44 x1.toNatClampNeg 0), L618), rfl, hv, mm_mv ht hP⟩, hS.F ht⟩) hS.2.2 d_X7_clear_27
  · have hv := hv.2 hc
    refine lv_iconst (v := (-1)) hx hb d_X7_clear_10 (by decide) ?_
    exact W.iret (v := (-1)) hx hb hr (fun t ht hW => ⟨⟨(-1), (I617, L618), rfl, hv, mm_mv ht hP⟩, hS.F ht⟩) hS.2.2 d_X7_clear_11
abbrev vc_X7_clear (x1 : Int32) (I : mm_I) (L : mm_L) (Q : Int32 → mm_I → mm_L → Prop) : Prop := vc_X7_clear_0 x1 I L Q
set_option maxHeartbeats 4000000 in
set_option maxRecDepth 100000 in
theorem m_X7_clear (l : Launch) (G : mm_G) (x1 : Int32) (I : mm_I) (L : mm_L) (Q : Int32 → mm_I → mm_L → Prop)  (hv : vc_X7_clear x1 I L Q) : Met l y_X7_clear w_X7_clear rm_X7_clear (mm_pre G [.ref (G.2.2.1 36), .int x1] I L) (mm_qi G Q) 0 0 G.2.2.2.1 := by
  refine Met.ofW (cc := c_X7_clear) (maxL := 3) (ret := (some .int)) (by decide) rfl ?_
  intro p e s m args below meth c s₁ B hml hw
  obtain ⟨rfl, hP, hK, hD, hC⟩ := hw
  have hts := atoms_spec (ws := w_X7_clear) B.pre
  have hown : s.vm.findClass RX7 = some m.cls := findClass_of_methodNamed B.named
  have hl := lv_entry ([.ref (G.2.2.1 36), .int x1]) (n := 3) (Nat.le_of_ble_eq_true rfl)
  rw [lg_entry_eq]
  generalize (lg_sl ([.ref (G.2.2.1 36), .int x1]) ++ List.replicate (3 - (lg_sl ([.ref (G.2.2.1 36), .int x1])).length) Slot.unset).toArray = ls at hl ⊢
  have hl : lv_has ls 3 [(0, .ref (G.2.2.1 36)), (1, .int x1)] := hl
  exact w_X7_clear_0 ⟨B.exec, B.bytes, B.returns, B.notSynchronized, hml, hown, fun w h => hts w (List.mem_cons_of_mem _ h), hK, hC⟩ x1 I L Q  hv hP hD va_S.rf hl
abbrev rm_X7_input : Room := { frames := 1, cells := 0, slots := 0, locals := 23 }
def vc_X7_input_0 (x1 : Int32) (x2 : Int32) (x3 : Int32) (I : mm_I) (L : mm_L) (Q : Int32 → mm_I → mm_L → Prop) : Prop :=
  vc_X7_out x1 0 5 I L (fun r624 I622 L623 => (¬ r624 = 0 → Q (-1) I622 L623) ∧ (r624 = 0 → vc_X7_out x2 0 7 I622 L623 (fun r627 I625 L626 => (r627 = 0 → vp_in ((x1 * 8) + x2) 48 ∧ Q 0 (mm_uI I625 47 (((x1 * 8) + x2)).toNatClampNeg x3) L626) ∧ (¬ r627 = 0 → Q (-1) I625 L626))))
set_option maxHeartbeats 4000000 in
set_option maxRecDepth 100000 in
theorem w_X7_input_0 {p : Program} {l : Launch} {e : Env} {s : State} {m : MethodId} {args : Array Value} {below : List Frame} {meth : Method} {c : Code} {G : mm_G} (hcx : mm_cx c_X7_input (some .int) 4 RX7 G p s m args meth c) (x1 : Int32) (x2 : Int32) (x3 : Int32) (I : mm_I) (L : mm_L) (Q : Int32 → mm_I → mm_L → Prop)  (hv : vc_X7_input_0 x1 x2 x3 I L Q) {H : Heap} {locs : List Loc} (hP : mm_PW G I L H) (hD : mm_DW G I L) (hS : va_S G.2.2.2.1 s.heap H locs) {ls : Array Slot} (hl : lv_has ls 4 [(0, .ref (G.2.2.1 36)), (1, .int x1), (2, .int x2), (3, .int x3)]) : W p l e (headSpec w_X7_input rm_X7_input).room s m args below meth c H locs 0 0 (MQ below (mm_qi G Q) args s 0 0 G.2.2.2.1) (F0 m 0 ls []) := by
  obtain ⟨hx, hb, hr, hlocks, hml, hown, hg, hK, hC⟩ := id hcx
  unfold vc_X7_input_0 at hv
  refine lv_aload_n hx hb d_X7_input_0 rfl (lv_at hl 0 rfl) ?_
  refine lv_iload_n hx hb d_X7_input_1 rfl (lv_at hl 1 rfl) ?_
  refine lv_iconst (v := 0) hx hb d_X7_input_2 (by decide) ?_
  refine lv_iconst (v := 5) hx hb d_X7_input_3 (by decide) ?_
  refine va_calli (va_runV (As := [.int x1, .int 0, .int 5]) (rest := []) ⟨hx, hb, hml, hown, hg⟩ (m_X7_out l G x1 0 5 I L _  hv) (cwV 3 hg (mm_gV k_220 k_221 k_222 k_223 kc_X7_out) rfl rfl rfl (by decide +kernel) ⟨Nat.le_of_ble_eq_true rfl, Nat.le_of_ble_eq_true rfl⟩) ⟨mm_blind, mm_recv hK hP (t := 36) (by decide) rfl rfl, fun U hU hW => mm_call hP hK hD hC hU hS hW⟩ rfl rfl hl.1 rfl (lv_room (Nat.le_of_ble_eq_true rfl)) d_X7_input_4 ⟨Nat.zero_le _, Nat.zero_le _⟩) hS (fun q _ h => h) (fun q h => h) (fun r624 u t H locs ht hvm hv hP hz1 hk1 hS => ?_)
  obtain ⟨I622, L623⟩ := u
  dsimp only at hv hP
  rw [ht] at hP
  have hD : mm_DW G I622 L623 := mm_D_any hD
  refine lv_if_ne (tgt := 21) hx hb d_X7_input_7 (by decide) (fun hc => ?_) (fun hc => ?_)
  · have hv := hv.1 hc
    refine lv_iconst (v := (-1)) hx hb d_X7_input_21 (by decide) ?_
    exact W.iret (v := (-1)) hx hb hr (fun t ht hW => ⟨⟨(-1), (I622, L623), rfl, hv, mm_mv ht hP⟩, hS.F ht⟩) hS.2.2 d_X7_input_22
  · have hv := hv.2 hc
    refine lv_aload_n hx hb d_X7_input_10 rfl (lv_at hl 0 rfl) ?_
    refine lv_iload_n hx hb d_X7_input_11 rfl (lv_at hl 2 rfl) ?_
    refine lv_iconst (v := 0) hx hb d_X7_input_12 (by decide) ?_
    refine lv_bipush (v := 7) hx hb d_X7_input_13 (by decide) ?_
    refine va_calli (va_runV (As := [.int x2, .int 0, .int 7]) (rest := []) ⟨hx, hb, hml, hown, hg⟩ (m_X7_out l G x2 0 7 I622 L623 _  hv) (cwV 3 hg (mm_gV k_220 k_221 k_222 k_223 kc_X7_out) rfl rfl rfl (by decide +kernel) ⟨Nat.le_of_ble_eq_true rfl, Nat.le_of_ble_eq_true rfl⟩) ⟨mm_blind, mm_recv hK hP (t := 36) (by decide) rfl rfl, fun U hU hW => mm_call hP hK hD hC hU hS hW⟩ rfl rfl hl.1 rfl (lv_room (Nat.le_of_ble_eq_true rfl)) d_X7_input_15 ⟨Nat.zero_le _, Nat.zero_le _⟩) hS (fun q _ h => h) (fun q h => h) (fun r627 u t H locs ht hvm hv hP hz1 hk1 hS => ?_)
    obtain ⟨I625, L626⟩ := u
    dsimp only at hv hP
    rw [ht] at hP
    have hD : mm_DW G I625 L626 := mm_D_any hD
    refine lv_if_eq (tgt := 23) hx hb d_X7_input_18 (by decide) (fun hc => ?_) (fun hc => ?_)
    · have hv := hv.1 hc
      refine lv_aload_n hx hb d_X7_input_23 rfl (lv_at hl 0 rfl) ?_
      refine mm_gr (D := G.1) (C := RX7) (T := TX7) (N0 := 21) (r := 47) hx hb hg in_X7 hown hK hP (t := 36) (by decide) rfl rfl 12 (by decide) (hg _ k_246) (fun _ h9 => h9) rfl d_X7_input_24 ?_
      refine lv_iload_n hx hb d_X7_input_27 rfl (lv_at hl 1 rfl) ?_
      refine lv_bipush (v := 8) hx hb d_X7_input_28 (by decide) ?_
      refine lv_imul hx hb d_X7_input_30 ?_
      refine lv_iload_n hx hb d_X7_input_31 rfl (lv_at hl 2 rfl) ?_
      refine lv_iadd hx hb d_X7_input_32 ?_
      refine lv_iload_n hx hb d_X7_input_33 rfl (lv_at hl 3 rfl) ?_
      obtain ⟨h628, hv⟩ := hv
      refine mm_iast (D := G.1) hx hb hK hP hD hS (t := 47) (by decide) rfl rfl h628 d_X7_input_34 (fun H locs hP hD hS => ?_)
      refine lv_iconst (v := 0) hx hb d_X7_input_35 (by decide) ?_
      exact W.iret (v := 0) hx hb hr (fun t ht hW => ⟨⟨0, ((mm_uI I625 47 (((x1 * 8) + x2)).toNatClampNeg x3), L626), rfl, hv, mm_mv ht hP⟩, hS.F ht⟩) hS.2.2 d_X7_input_36
    · have hv := hv.2 hc
      refine lv_iconst (v := (-1)) hx hb d_X7_input_21 (by decide) ?_
      exact W.iret (v := (-1)) hx hb hr (fun t ht hW => ⟨⟨(-1), (I625, L626), rfl, hv, mm_mv ht hP⟩, hS.F ht⟩) hS.2.2 d_X7_input_22
abbrev vc_X7_input (x1 : Int32) (x2 : Int32) (x3 : Int32) (I : mm_I) (L : mm_L) (Q : Int32 → mm_I → mm_L → Prop) : Prop := vc_X7_input_0 x1 x2 x3 I L Q
set_option maxHeartbeats 4000000 in
set_option maxRecDepth 100000 in
theorem m_X7_input (l : Launch) (G : mm_G) (x1 : Int32) (x2 : Int32) (x3 : Int32) (I : mm_I) (L : mm_L) (Q : Int32 → mm_I → mm_L → Prop)  (hv : vc_X7_input x1 x2 x3 I L Q) : Met l y_X7_input w_X7_input rm_X7_input (mm_pre G [.ref (G.2.2.1 36), .int x1, .int x2, .int x3] I L) (mm_qi G Q) 0 0 G.2.2.2.1 := by
  refine Met.ofW (cc := c_X7_input) (maxL := 4) (ret := (some .int)) (by decide) rfl ?_
  intro p e s m args below meth c s₁ B hml hw
  obtain ⟨rfl, hP, hK, hD, hC⟩ := hw
  have hts := atoms_spec (ws := w_X7_input) B.pre
  have hown : s.vm.findClass RX7 = some m.cls := findClass_of_methodNamed B.named
  have hl := lv_entry ([.ref (G.2.2.1 36), .int x1, .int x2, .int x3]) (n := 4) (Nat.le_of_ble_eq_true rfl)
  rw [lg_entry_eq]
  generalize (lg_sl ([.ref (G.2.2.1 36), .int x1, .int x2, .int x3]) ++ List.replicate (4 - (lg_sl ([.ref (G.2.2.1 36), .int x1, .int x2, .int x3])).length) Slot.unset).toArray = ls at hl ⊢
  have hl : lv_has ls 4 [(0, .ref (G.2.2.1 36)), (1, .int x1), (2, .int x2), (3, .int x3)] := hl
  exact w_X7_input_0 ⟨B.exec, B.bytes, B.returns, B.notSynchronized, hml, hown, fun w h => hts w (List.mem_cons_of_mem _ h), hK, hC⟩ x1 x2 x3 I L Q  hv hP hD va_S.rf hl
abbrev rm_X7_activate : Room := { frames := 1, cells := 0, slots := 0, locals := 23 }
def vc_X7_activate_0 (x1 : Int32) (x2 : Int32) (I : mm_I) (L : mm_L) (Q : Int32 → mm_I → mm_L → Prop) : Prop :=
  vc_X7_out x1 0 5 I L (fun r631 I629 L630 => (r631 = 0 → vp_in x1 6 ∧ Q 0 (mm_uI I629 48 x1.toNatClampNeg (vp_nar .boolean x2)) L630) ∧ (¬ r631 = 0 → Q (-1) I629 L630))
set_option maxHeartbeats 4000000 in
set_option maxRecDepth 100000 in
theorem w_X7_activate_0 {p : Program} {l : Launch} {e : Env} {s : State} {m : MethodId} {args : Array Value} {below : List Frame} {meth : Method} {c : Code} {G : mm_G} (hcx : mm_cx c_X7_activate (some .int) 3 RX7 G p s m args meth c) (x1 : Int32) (x2 : Int32) (I : mm_I) (L : mm_L) (Q : Int32 → mm_I → mm_L → Prop)  (hv : vc_X7_activate_0 x1 x2 I L Q) {H : Heap} {locs : List Loc} (hP : mm_PW G I L H) (hD : mm_DW G I L) (hS : va_S G.2.2.2.1 s.heap H locs) {ls : Array Slot} (hl : lv_has ls 3 [(0, .ref (G.2.2.1 36)), (1, .int x1), (2, .int x2)]) : W p l e (headSpec w_X7_activate rm_X7_activate).room s m args below meth c H locs 0 0 (MQ below (mm_qi G Q) args s 0 0 G.2.2.2.1) (F0 m 0 ls []) := by
  obtain ⟨hx, hb, hr, hlocks, hml, hown, hg, hK, hC⟩ := id hcx
  unfold vc_X7_activate_0 at hv
  refine lv_aload_n hx hb d_X7_activate_0 rfl (lv_at hl 0 rfl) ?_
  refine lv_iload_n hx hb d_X7_activate_1 rfl (lv_at hl 1 rfl) ?_
  refine lv_iconst (v := 0) hx hb d_X7_activate_2 (by decide) ?_
  refine lv_iconst (v := 5) hx hb d_X7_activate_3 (by decide) ?_
  refine va_calli (va_runV (As := [.int x1, .int 0, .int 5]) (rest := []) ⟨hx, hb, hml, hown, hg⟩ (m_X7_out l G x1 0 5 I L _  hv) (cwV 3 hg (mm_gV k_220 k_221 k_222 k_223 kc_X7_out) rfl rfl rfl (by decide +kernel) ⟨Nat.le_of_ble_eq_true rfl, Nat.le_of_ble_eq_true rfl⟩) ⟨mm_blind, mm_recv hK hP (t := 36) (by decide) rfl rfl, fun U hU hW => mm_call hP hK hD hC hU hS hW⟩ rfl rfl hl.1 rfl (lv_room (Nat.le_of_ble_eq_true rfl)) d_X7_activate_4 ⟨Nat.zero_le _, Nat.zero_le _⟩) hS (fun q _ h => h) (fun q h => h) (fun r631 u t H locs ht hvm hv hP hz1 hk1 hS => ?_)
  obtain ⟨I629, L630⟩ := u
  dsimp only at hv hP
  rw [ht] at hP
  have hD : mm_DW G I629 L630 := mm_D_any hD
  refine lv_if_eq (tgt := 12) hx hb d_X7_activate_7 (by decide) (fun hc => ?_) (fun hc => ?_)
  · have hv := hv.1 hc
    refine lv_aload_n hx hb d_X7_activate_12 rfl (lv_at hl 0 rfl) ?_
    refine mm_gr (D := G.1) (C := RX7) (T := TX7) (N0 := 21) (r := 48) hx hb hg in_X7 hown hK hP (t := 36) (by decide) rfl rfl 13 (by decide) (hg _ k_247) (fun _ h9 => h9) rfl d_X7_activate_13 ?_
    refine lv_iload_n hx hb d_X7_activate_16 rfl (lv_at hl 1 rfl) ?_
    refine lv_iload_n hx hb d_X7_activate_17 rfl (lv_at hl 2 rfl) ?_
    obtain ⟨h632, hv⟩ := hv
    refine mm_zast (D := G.1) hx hb hK hP hD hS (t := 48) (by decide) rfl rfl h632 d_X7_activate_18 (fun H locs hP hD hS => ?_)
    refine lv_iconst (v := 0) hx hb d_X7_activate_19 (by decide) ?_
    exact W.iret (v := 0) hx hb hr (fun t ht hW => ⟨⟨0, ((mm_uI I629 48 x1.toNatClampNeg (vp_nar .boolean x2)), L630), rfl, hv, mm_mv ht hP⟩, hS.F ht⟩) hS.2.2 d_X7_activate_20
  · have hv := hv.2 hc
    refine lv_iconst (v := (-1)) hx hb d_X7_activate_10 (by decide) ?_
    exact W.iret (v := (-1)) hx hb hr (fun t ht hW => ⟨⟨(-1), (I629, L630), rfl, hv, mm_mv ht hP⟩, hS.F ht⟩) hS.2.2 d_X7_activate_11
abbrev vc_X7_activate (x1 : Int32) (x2 : Int32) (I : mm_I) (L : mm_L) (Q : Int32 → mm_I → mm_L → Prop) : Prop := vc_X7_activate_0 x1 x2 I L Q
set_option maxHeartbeats 4000000 in
set_option maxRecDepth 100000 in
theorem m_X7_activate (l : Launch) (G : mm_G) (x1 : Int32) (x2 : Int32) (I : mm_I) (L : mm_L) (Q : Int32 → mm_I → mm_L → Prop)  (hv : vc_X7_activate x1 x2 I L Q) : Met l y_X7_activate w_X7_activate rm_X7_activate (mm_pre G [.ref (G.2.2.1 36), .int x1, .int x2] I L) (mm_qi G Q) 0 0 G.2.2.2.1 := by
  refine Met.ofW (cc := c_X7_activate) (maxL := 3) (ret := (some .int)) (by decide) rfl ?_
  intro p e s m args below meth c s₁ B hml hw
  obtain ⟨rfl, hP, hK, hD, hC⟩ := hw
  have hts := atoms_spec (ws := w_X7_activate) B.pre
  have hown : s.vm.findClass RX7 = some m.cls := findClass_of_methodNamed B.named
  have hl := lv_entry ([.ref (G.2.2.1 36), .int x1, .int x2]) (n := 3) (Nat.le_of_ble_eq_true rfl)
  rw [lg_entry_eq]
  generalize (lg_sl ([.ref (G.2.2.1 36), .int x1, .int x2]) ++ List.replicate (3 - (lg_sl ([.ref (G.2.2.1 36), .int x1, .int x2])).length) Slot.unset).toArray = ls at hl ⊢
  have hl : lv_has ls 3 [(0, .ref (G.2.2.1 36)), (1, .int x1), (2, .int x2)] := hl
  exact w_X7_activate_0 ⟨B.exec, B.bytes, B.returns, B.notSynchronized, hml, hown, fun w h => hts w (List.mem_cons_of_mem _ h), hK, hC⟩ x1 x2 I L Q  hv hP hD va_S.rf hl
