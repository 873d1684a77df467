abbrev rm_X6_activate : Room := { frames := 1, cells := 0, slots := 0, locals := 21 }
def vc_X6_activate_0 (x1 : Int32) (x2 : Int32) (I : mm_I) (L : mm_L) (Q : Int32 → mm_I → mm_L → Prop) : Prop :=
  vc_X6_within x1 6 I L (fun r130 I128 L129 => (¬ r130 = 0 → vp_in x1 6 ∧ zb x2 ∧ Q 0 (mm_uI I128 (24 + x1.toNatClampNeg) 3 x2) L129) ∧ (r130 = 0 → Q (-1) I128 L129))
set_option maxHeartbeats 4000000 in
set_option maxRecDepth 100000 in
theorem w_X6_activate_0 {p : Program} {l : Launch} {e : Env} {s : State} {m : MethodId} {args : Array Value} {below : List Frame} {meth : Method} {c : Code} {G : mm_G} (hcx : mm_cx c_X6_activate (some .int) 3 RX6 G p s m args meth c) (x1 : Int32) (x2 : Int32) (I : mm_I) (L : mm_L) (Q : Int32 → mm_I → mm_L → Prop)  (hv : vc_X6_activate_0 x1 x2 I L Q) {H : Heap} {locs : List Loc} (hP : mm_PW G I L H) (hD : mm_DW G I L) (hS : va_S G.2.2.2.1 s.heap H locs) {ls : Array Slot} (hl : lv_has ls 3 [(0, .ref (G.2.2.1 0)), (1, .int x1), (2, .int x2)]) : W p l e (headSpec w_X6_activate rm_X6_activate).room s m args below meth c H locs 0 0 (MQ below (mm_qi G Q) args s 0 0 G.2.2.2.1) (F0 m 0 ls []) := by
  obtain ⟨hx, hb, hr, hlocks, hml, hown, hg, hK, hC⟩ := id hcx
  unfold vc_X6_activate_0 at hv
  refine lv_iload_n hx hb d_X6_activate_0 rfl (lv_at hl 1 rfl) ?_
  refine lv_bipush (v := 6) hx hb d_X6_activate_1 (by decide) ?_
  refine va_calli (va_runS (As := [.int x1, .int 6]) (rest := []) ⟨hx, hb, hml, hown, hg⟩ (m_X6_within l G x1 6 I L _  hv) (va_cwS 2 hg (mm_gS k_42 k_2 k_1 kc_X6_within) rfl rfl rfl (by decide +kernel) ⟨Nat.le_of_ble_eq_true rfl, Nat.le_of_ble_eq_true rfl⟩) ⟨mm_blind, fun U hU hW => mm_call hP hK hD hC hU hS hW⟩ rfl rfl hl.1 rfl (lv_room (Nat.le_of_ble_eq_true rfl)) d_X6_activate_3 ⟨Nat.zero_le _, Nat.zero_le _⟩) hS (fun q _ h => h) (fun q h => h) (fun r130 u t H locs ht hvm hv hP hz1 hk1 hS => ?_)
  obtain ⟨I128, L129⟩ := u
  dsimp only at hv hP
  rw [ht] at hP
  have hD : mm_DW G I128 L129 := mm_D_any hD
  refine lv_if_ne (tgt := 11) hx hb d_X6_activate_6 (by decide) (fun hc => ?_) (fun hc => ?_)
  · have hv := hv.1 hc
    refine lv_aload_n hx hb d_X6_activate_11 rfl (lv_at hl 0 rfl) ?_
    refine mm_gr (D := G.1) (C := RX6) (T := TX6) (N0 := 3) (r := 13) hx hb hg in_X6 hown hK hP (t := 0) (by decide) rfl rfl 1 (by decide) (hg _ k_54) (fun _ h9 => h9) rfl d_X6_activate_12 ?_
    refine lv_iload_n hx hb d_X6_activate_15 rfl (lv_at hl 1 rfl) ?_
    obtain ⟨h131, hv⟩ := hv
    refine mm_aald (D := G.1) hx hb hK hP (t := 13) (by decide) rfl rfl h131 (r := (24 + x1.toNatClampNeg)) (rfl) d_X6_activate_16 ?_
    refine lv_iload_n hx hb d_X6_activate_17 rfl (lv_at hl 2 rfl) ?_
    obtain ⟨h132, hv⟩ := hv
    refine mm_pi (D := G.1) (C := RX1) (T := TX1) (N0 := 4) (ty := .boolean) hx hb hg in_X1 tyX1 tyX1_ok nmX1 hown hK hP hD hS (t := (24 + x1.toNatClampNeg)) (ly_N_PS (mm_lt h131)) (ly_PS (mm_lt h131)) rfl 3 (by decide) (hg _ k_56) (fun _ h9 => h9) rfl (by decide +kernel) (zb_n h132) (zb_f h132) rfl d_X6_activate_18 (fun H locs hP hD hS => ?_)
    refine lv_iconst (v := 0) hx hb d_X6_activate_21 (by decide) ?_
    exact W.iret (v := 0) hx hb hr (fun t ht hW => ⟨⟨0, ((mm_uI I128 (24 + x1.toNatClampNeg) 3 x2), L129), rfl, hv, mm_mv ht hP⟩, hS.F ht⟩) hS.2.2 d_X6_activate_22
  · have hv := hv.2 hc
    refine lv_iconst (v := (-1)) hx hb d_X6_activate_9 (by decide) ?_
    exact W.iret (v := (-1)) hx hb hr (fun t ht hW => ⟨⟨(-1), (I128, L129), rfl, hv, mm_mv ht hP⟩, hS.F ht⟩) hS.2.2 d_X6_activate_10
abbrev vc_X6_activate (x1 : Int32) (x2 : Int32) (I : mm_I) (L : mm_L) (Q : Int32 → mm_I → mm_L → Prop) : Prop := vc_X6_activate_0 x1 x2 I L Q
set_option maxHeartbeats 4000000 in
set_option maxRecDepth 100000 in
theorem m_X6_activate (l : Launch) (G : mm_G) (x1 : Int32) (x2 : Int32) (I : mm_I) (L : mm_L) (Q : Int32 → mm_I → mm_L → Prop)  (hv : vc_X6_activate x1 x2 I L Q) : Met l y_X6_activate w_X6_activate rm_X6_activate (mm_pre G [.ref (G.2.2.1 0), .int x1, .int x2] I L) (mm_qi G Q) 0 0 G.2.2.2.1 := by
  refine Met.ofW (cc := c_X6_activate) (maxL := 3) (ret := (some .int)) (by decide) rfl ?_
  intro p e s m args below meth c s₁ B hml hw
  obtain ⟨rfl, hP, hK, hD, hC⟩ := hw
  have hts := atoms_spec (ws := w_X6_activate) B.pre
  have hown : s.vm.findClass RX6 = some m.cls := findClass_of_methodNamed B.named
  have hl := lv_entry ([.ref (G.2.2.1 0), .int x1, .int x2]) (n := 3) (Nat.le_of_ble_eq_true rfl)
  rw [lg_entry_eq]
  generalize (lg_sl ([.ref (G.2.2.1 0), .int x1, .int x2]) ++ List.replicate (3 - (lg_sl ([.ref (G.2.2.1 0), .int x1, .int x2])).length) Slot.unset).toArray = ls at hl ⊢
  have hl : lv_has ls 3 [(0, .ref (G.2.2.1 0)), (1, .int x1), (2, .int x2)] := hl
  exact w_X6_activate_0 ⟨B.exec, B.bytes, B.returns, B.notSynchronized, hml, hown, fun w h => hts w (List.mem_cons_of_mem _ h), hK, hC⟩ x1 x2 I L Q  hv hP hD va_S.rf hl
abbrev rm_X5_isInt : Room := { frames := 0, cells := 0, slots := 0, locals := 0 }
def vc_X5_isInt_0 (x0 : Int64) (I : mm_I) (L : mm_L) (Q : Int32 → mm_I → mm_L → Prop) : Prop :=
  (x0 < (-2147483648) → Q 0 I L) ∧ (¬ x0 < (-2147483648) → (2147483647 < x0 → Q 0 I L) ∧ (¬ 2147483647 < x0 → Q 1 I L))
set_option maxHeartbeats 4000000 in
set_option maxRecDepth 100000 in
theorem w_X5_isInt_0 {p : Program} {l : Launch} {e : Env} {s : State} {m : MethodId} {args : Array Value} {below : List Frame} {meth : Method} {c : Code} {G : mm_G} (hcx : mm_cx c_X5_isInt (some .boolean) 2 RX5 G p s m args meth c) (x0 : Int64) (I : mm_I) (L : mm_L) (Q : Int32 → mm_I → mm_L → Prop)  (hv : vc_X5_isInt_0 x0 I L Q) {H : Heap} {locs : List Loc} (hP : mm_PW G I L H) (hD : mm_DW G I L) (hS : va_S G.2.2.2.1 s.heap H locs) {ls : Array Slot} (hl : lv_has ls 2 [(0, .long x0)]) : W p l e (headSpec w_X5_isInt rm_X5_isInt).room s m args below meth c H locs 0 0 (MQ below (mm_qi G Q) args s 0 0 G.2.2.2.1) (F0 m 0 ls []) := by
  obtain ⟨hx, hb, hr, hlocks, hml, hown, hg, hK, hC⟩ := id hcx
  unfold vc_X5_isInt_0 at hv
  refine lv_lload_n hx hb d_X5_isInt_0 rfl (lv_at hl 0 rfl) ?_
  refine lv_ldc2 (v := (-2147483648)) hx hb hown (hg _ k_57) d_X5_isInt_1 ?_
  refine W.lcmp hx hb d_X5_isInt_4 ?_
  refine lv_if_lt (tgt := 20) hx hb d_X5_isInt_5 (by decide) (fun hc => ?_) (fun hc => ?_)
  · have hv := hv.1 ((lg_cmp_lt _ _).mp hc)
    refine lv_iconst (v := 0) hx hb d_X5_isInt_20 (by decide) ?_
    exact W.zret (v := 0) (ty := .boolean) hx hb hr (by decide) (fun t ht hW => ⟨⟨0, (I, L), rfl, hv, mm_mv ht hP⟩, hS.F ht⟩) hS.2.2 d_X5_isInt_21
  · have hv := hv.2 (fun q => hc ((lg_cmp_lt _ _).mpr q))
    refine lv_lload_n hx hb d_X5_isInt_8 rfl (lv_at hl 0 rfl) ?_
    refine lv_ldc2 (v := 2147483647) hx hb hown (hg _ k_58) d_X5_isInt_9 ?_
    refine W.lcmp hx hb d_X5_isInt_12 ?_
    refine lv_if_gt (tgt := 20) hx hb d_X5_isInt_13 (by decide) (fun hc => ?_) (fun hc => ?_)
    · have hv := hv.1 ((lg_cmp_gt _ _).mp hc)
      refine lv_iconst (v := 0) hx hb d_X5_isInt_20 (by decide) ?_
      exact W.zret (v := 0) (ty := .boolean) hx hb hr (by decide) (fun t ht hW => ⟨⟨0, (I, L), rfl, hv, mm_mv ht hP⟩, hS.F ht⟩) hS.2.2 d_X5_isInt_21
    · have hv := hv.2 (fun q => hc ((lg_cmp_gt _ _).mpr q))
      refine lv_iconst (v := 1) hx hb d_X5_isInt_16 (by decide) ?_
      refine lv_goto (tgt := 21) hx hb d_X5_isInt_17 (by decide) ?_
      exact W.zret (v := 1) (ty := .boolean) hx hb hr (by decide) (fun t ht hW => ⟨⟨1, (I, L), rfl, hv, mm_mv ht hP⟩, hS.F ht⟩) hS.2.2 d_X5_isInt_21
abbrev vc_X5_isInt (x0 : Int64) (I : mm_I) (L : mm_L) (Q : Int32 → mm_I → mm_L → Prop) : Prop := vc_X5_isInt_0 x0 I L Q
set_option maxHeartbeats 4000000 in
set_option maxRecDepth 100000 in
theorem m_X5_isInt (l : Launch) (G : mm_G) (x0 : Int64) (I : mm_I) (L : mm_L) (Q : Int32 → mm_I → mm_L → Prop)  (hv : vc_X5_isInt x0 I L Q) : Met l y_X5_isInt w_X5_isInt rm_X5_isInt (mm_pre G [.long x0] I L) (mm_qi G Q) 0 0 G.2.2.2.1 := by
  refine Met.ofW (cc := c_X5_isInt) (maxL := 2) (ret := (some .boolean)) (by decide) rfl ?_
  intro p e s m args below meth c s₁ B hml hw
  obtain ⟨rfl, hP, hK, hD, hC⟩ := hw
  have hts := atoms_spec (ws := w_X5_isInt) B.pre
  have hown : s.vm.findClass RX5 = some m.cls := findClass_of_methodNamed B.named
  have hl := lv_entry ([.long x0]) (n := 2) (Nat.le_of_ble_eq_true rfl)
  rw [lg_entry_eq]
  generalize (lg_sl ([.long x0]) ++ List.replicate (2 - (lg_sl ([.long x0])).length) Slot.unset).toArray = ls at hl ⊢
  have hl : lv_has ls 2 [(0, .long x0)] := hl
  exact w_X5_isInt_0 ⟨B.exec, B.bytes, B.returns, B.notSynchronized, hml, hown, fun w h => hts w (List.mem_cons_of_mem _ h), hK, hC⟩ x0 I L Q  hv hP hD va_S.rf hl
abbrev rm_X1_paidIsInt : Room := { frames := 1, cells := 0, slots := 0, locals := 21 }
def vc_X1_paidIsInt_0 (p0 : Nat) (I : mm_I) (L : mm_L) (Q : Int32 → mm_I → mm_L → Prop) : Prop :=
  vc_X5_isInt (L (24 + p0) 1) I L (fun r135 I133 L134 => (r135 = 0 → Q 0 I133 L134) ∧ (¬ r135 = 0 → vc_X5_isInt (L134 (24 + p0) 2) I133 L134 (fun r138 I136 L137 => (r138 = 0 → Q 0 I136 L137) ∧ (¬ r138 = 0 → Q 1 I136 L137))))
set_option maxHeartbeats 4000000 in
set_option maxRecDepth 100000 in
theorem w_X1_paidIsInt_0 {p : Program} {l : Launch} {e : Env} {s : State} {m : MethodId} {args : Array Value} {below : List Frame} {meth : Method} {c : Code} {G : mm_G} (hcx : mm_cx c_X1_paidIsInt (some .boolean) 1 RX1 G p s m args meth c) (p0 : Nat) (I : mm_I) (L : mm_L) (Q : Int32 → mm_I → mm_L → Prop) (hp0 : p0 < 6) (hv : vc_X1_paidIsInt_0 p0 I L Q) {H : Heap} {locs : List Loc} (hP : mm_PW G I L H) (hD : mm_DW G I L) (hS : va_S G.2.2.2.1 s.heap H locs) {ls : Array Slot} (hl : lv_has ls 1 [(0, .ref (G.2.2.1 (24 + p0)))]) : W p l e (headSpec w_X1_paidIsInt rm_X1_paidIsInt).room s m args below meth c H locs 0 0 (MQ below (mm_qi G Q) args s 0 0 G.2.2.2.1) (F0 m 0 ls []) := by
  obtain ⟨hx, hb, hr, hlocks, hml, hown, hg, hK, hC⟩ := id hcx
  unfold vc_X1_paidIsInt_0 at hv
  refine lv_aload_n hx hb d_X1_paidIsInt_0 rfl (lv_at hl 0 rfl) ?_
  refine mm_gl (D := G.1) (C := RX1) (T := TX1) (N0 := 4) hx hb hg in_X1 hown hK hP (t := (24 + p0)) (ly_N_PS hp0) (ly_PS hp0) rfl 1 (by decide) (hg _ k_59) (fun _ h9 => h9) rfl d_X1_paidIsInt_1 ?_
  refine va_calli (va_runS (As := [.long (L (24 + p0) 1)]) (rest := []) ⟨hx, hb, hml, hown, hg⟩ (m_X5_isInt l G (L (24 + p0) 1) I L _  hv) (va_cwS 1 hg (mm_gS k_61 k_62 k_63 kc_X5_isInt) rfl rfl rfl (by decide +kernel) ⟨Nat.le_of_ble_eq_true rfl, Nat.le_of_ble_eq_true rfl⟩) ⟨mm_blind, fun U hU hW => mm_call hP hK hD hC hU hS hW⟩ rfl rfl hl.1 rfl (lv_room (Nat.le_of_ble_eq_true rfl)) d_X1_paidIsInt_4 ⟨Nat.zero_le _, Nat.zero_le _⟩) hS (fun q _ h => h) (fun q h => h) (fun r135 u t H locs ht hvm hv hP hz1 hk1 hS => ?_)
  obtain ⟨I133, L134⟩ := u
  dsimp only at hv hP
  rw [ht] at hP
  have hD : mm_DW G I133 L134 := mm_D_any hD
  refine lv_if_eq (tgt := 24) hx hb d_X1_paidIsInt_7 (by decide) (fun hc => ?_) (fun hc => ?_)
  · have hv := hv.1 hc
    refine lv_iconst (v := 0) hx hb d_X1_paidIsInt_24 (by decide) ?_
    exact W.zret (v := 0) (ty := .boolean) hx hb hr (by decide) (fun t ht hW => ⟨⟨0, (I133, L134), rfl, hv, mm_mv ht hP⟩, hS.F ht⟩) hS.2.2 d_X1_paidIsInt_25
  · have hv := hv.2 hc
    refine lv_aload_n hx hb d_X1_paidIsInt_10 rfl (lv_at hl 0 rfl) ?_
    refine mm_gl (D := G.1) (C := RX1) (T := TX1) (N0 := 4) hx hb hg in_X1 hown hK hP (t := (24 + p0)) (ly_N_PS hp0) (ly_PS hp0) rfl 2 (by decide) (hg _ k_60) (fun _ h9 => h9) rfl d_X1_paidIsInt_11 ?_
    refine va_calli (va_runS (As := [.long (L134 (24 + p0) 2)]) (rest := []) ⟨hx, hb, hml, hown, hg⟩ (m_X5_isInt l G (L134 (24 + p0) 2) I133 L134 _  hv) (va_cwS 1 hg (mm_gS k_61 k_62 k_63 kc_X5_isInt) rfl rfl rfl (by decide +kernel) ⟨Nat.le_of_ble_eq_true rfl, Nat.le_of_ble_eq_true rfl⟩) ⟨mm_blind, fun U hU hW => mm_call hP hK hD hC hU hS hW⟩ rfl rfl hl.1 rfl (lv_room (Nat.le_of_ble_eq_true rfl)) d_X1_paidIsInt_14 ⟨Nat.zero_le _, Nat.zero_le _⟩) hS (fun q _ h => h) (fun q h => h) (fun r138 u t H locs ht hvm hv hP hz1 hk1 hS => ?_)
    obtain ⟨I136, L137⟩ := u
    dsimp only at hv hP
    rw [ht] at hP
    have hD : mm_DW G I136 L137 := mm_D_any hD
    refine lv_if_eq (tgt := 24) hx hb d_X1_paidIsInt_17 (by decide) (fun hc => ?_) (fun hc => ?_)
    · have hv := hv.1 hc
      refine lv_iconst (v := 0) hx hb d_X1_paidIsInt_24 (by decide) ?_
      exact W.zret (v := 0) (ty := .boolean) hx hb hr (by decide) (fun t ht hW => ⟨⟨0, (I136, L137), rfl, hv, mm_mv ht hP⟩, hS.F ht⟩) hS.2.2 d_X1_paidIsInt_25
    · have hv := hv.2 hc
      refine lv_iconst (v := 1) hx hb d_X1_paidIsInt_20 (by decide) ?_
      refine lv_goto (tgt := 25) hx hb d_X1_paidIsInt_21 (by decide) ?_
      exact W.zret (v := 1) (ty := .boolean) hx hb hr (by decide) (fun t ht hW => ⟨⟨1, (I136, L137), rfl, hv, mm_mv ht hP⟩, hS.F ht⟩) hS.2.2 d_X1_paidIsInt_25
abbrev vc_X1_paidIsInt (p0 : Nat) (I : mm_I) (L : mm_L) (Q : Int32 → mm_I → mm_L → Prop) : Prop := vc_X1_paidIsInt_0 p0 I L Q
set_option maxHeartbeats 4000000 in
set_option maxRecDepth 100000 in
theorem m_X1_paidIsInt (l : Launch) (G : mm_G) (p0 : Nat) (I : mm_I) (L : mm_L) (Q : Int32 → mm_I → mm_L → Prop) (hp0 : p0 < 6) (hv : vc_X1_paidIsInt p0 I L Q) : Met l y_X1_paidIsInt w_X1_paidIsInt rm_X1_paidIsInt (mm_pre G [.ref (G.2.2.1 (24 + p0))] I L) (mm_qi G Q) 0 0 G.2.2.2.1 := by
  refine Met.ofW (cc := c_X1_paidIsInt) (maxL := 1) (ret := (some .boolean)) (by decide) rfl ?_
  intro p e s m args below meth c s₁ B hml hw
  obtain ⟨rfl, hP, hK, hD, hC⟩ := hw
  have hts := atoms_spec (ws := w_X1_paidIsInt) B.pre
  have hown : s.vm.findClass RX1 = some m.cls := findClass_of_methodNamed B.named
  have hl := lv_entry ([.ref (G.2.2.1 (24 + p0))]) (n := 1) (Nat.le_of_ble_eq_true rfl)
  rw [lg_entry_eq]
  generalize (lg_sl ([.ref (G.2.2.1 (24 + p0))]) ++ List.replicate (1 - (lg_sl ([.ref (G.2.2.1 (24 + p0))])).length) Slot.unset).toArray = ls at hl ⊢
  have hl : lv_has ls 1 [(0, .ref (G.2.2.1 (24 + p0)))] := hl
  exact w_X1_paidIsInt_0 ⟨B.exec, B.bytes, B.returns, B.notSynchronized, hml, hown, fun w h => hts w (List.mem_cons_of_mem _ h), hK, hC⟩ p0 I L Q hp0 hv hP hD va_S.rf hl
abbrev rm_X2_workedOrEmpty : Room := { frames := 0, cells := 0, slots := 0, locals := 0 }
def vc_X2_workedOrEmpty_0 (x1 : Int32) (I : mm_I) (L : mm_L) (Q : Int64 → mm_I → mm_L → Prop) : Prop :=
  (¬ x1 = (-1) → vp_in x1 70 ∧ Q (L 12 x1.toNatClampNeg) I L) ∧ (x1 = (-1) → Q 1000000000001 I L)
set_option maxHeartbeats 4000000 in
set_option maxRecDepth 100000 in
theorem w_X2_workedOrEmpty_0 {p : Program} {l : Launch} {e : Env} {s : State} {m : MethodId} {args : Array Value} {below : List Frame} {meth : Method} {c : Code} {G : mm_G} (hcx : mm_cx c_X2_workedOrEmpty (some .long) 2 RX2 G p s m args meth c) (x1 : Int32) (I : mm_I) (L : mm_L) (Q : Int64 → mm_I → mm_L → Prop)  (hv : vc_X2_workedOrEmpty_0 x1 I L Q) {H : Heap} {locs : List Loc} (hP : mm_PW G I L H) (hD : mm_DW G I L) (hS : va_S G.2.2.2.1 s.heap H locs) {ls : Array Slot} (hl : lv_has ls 2 [(0, .ref (G.2.2.1 1)), (1, .int x1)]) : W p l e (headSpec w_X2_workedOrEmpty rm_X2_workedOrEmpty).room s m args below meth c H locs 0 0 (MQ below (mm_ql G Q) args s 0 0 G.2.2.2.1) (F0 m 0 ls []) := by
  obtain ⟨hx, hb, hr, hlocks, hml, hown, hg, hK, hC⟩ := id hcx
  unfold vc_X2_workedOrEmpty_0 at hv
  refine lv_iload_n hx hb d_X2_workedOrEmpty_0 rfl (lv_at hl 1 rfl) ?_
  refine lv_iconst (v := (-1)) hx hb d_X2_workedOrEmpty_1 (by decide) ?_
  refine lv_icmp_ne (tgt := 11) hx hb d_X2_workedOrEmpty_2 (by decide) (fun hc => ?_) (fun hc => ?_)
  · have hv := hv.1 hc
    refine lv_aload_n hx hb d_X2_workedOrEmpty_11 rfl (lv_at hl 0 rfl) ?_
    refine mm_gr (D := G.1) (C := RX2) (T := TX2) (N0 := 4) (r := 12) hx hb hg in_X2 hown hK hP (t := 1) (by decide) rfl rfl 3 (by decide) (hg _ k_64) (fun _ h9 => h9) rfl d_X2_workedOrEmpty_12 ?_
    refine lv_iload_n hx hb d_X2_workedOrEmpty_15 rfl (lv_at hl 1 rfl) ?_
    obtain ⟨h139, hv⟩ := hv
    refine mm_lald (D := G.1) hx hb hK hP (t := 12) (by decide) rfl rfl h139 d_X2_workedOrEmpty_16 ?_
    exact W.lret (v := (L 12 x1.toNatClampNeg)) hx hb hr (fun t ht hW => ⟨⟨(L 12 x1.toNatClampNeg), (I, L), rfl, hv, mm_mv ht hP⟩, hS.F ht⟩) hS.2.2 d_X2_workedOrEmpty_17
  · have hv := hv.2 hc
    refine lv_ldc2 (v := 1000000000001) hx hb hown (hg _ k_65) d_X2_workedOrEmpty_5 ?_
    refine lv_goto (tgt := 17) hx hb d_X2_workedOrEmpty_8 (by decide) ?_
    exact W.lret (v := 1000000000001) hx hb hr (fun t ht hW => ⟨⟨1000000000001, (I, L), rfl, hv, mm_mv ht hP⟩, hS.F ht⟩) hS.2.2 d_X2_workedOrEmpty_17
abbrev vc_X2_workedOrEmpty (x1 : Int32) (I : mm_I) (L : mm_L) (Q : Int64 → mm_I → mm_L → Prop) : Prop := vc_X2_workedOrEmpty_0 x1 I L Q
set_option maxHeartbeats 4000000 in
set_option maxRecDepth 100000 in
theorem m_X2_workedOrEmpty (l : Launch) (G : mm_G) (x1 : Int32) (I : mm_I) (L : mm_L) (Q : Int64 → mm_I → mm_L → Prop)  (hv : vc_X2_workedOrEmpty x1 I L Q) : Met l y_X2_workedOrEmpty w_X2_workedOrEmpty rm_X2_workedOrEmpty (mm_pre G [.ref (G.2.2.1 1), .int x1] I L) (mm_ql G Q) 0 0 G.2.2.2.1 := by
  refine Met.ofW (cc := c_X2_workedOrEmpty) (maxL := 2) (ret := (some .long)) (by decide) rfl ?_
  intro p e s m args below meth c s₁ B hml hw
  obtain ⟨rfl, hP, hK, hD, hC⟩ := hw
  have hts := atoms_spec (ws := w_X2_workedOrEmpty) B.pre
  have hown : s.vm.findClass RX2 = some m.cls := findClass_of_methodNamed B.named
  have hl := lv_entry ([.ref (G.2.2.1 1), .int x1]) (n := 2) (Nat.le_of_ble_eq_true rfl)
  rw [lg_entry_eq]
  generalize (lg_sl ([.ref (G.2.2.1 1), .int x1]) ++ List.replicate (2 - (lg_sl ([.ref (G.2.2.1 1), .int x1])).length) Slot.unset).toArray = ls at hl ⊢
  have hl : lv_has ls 2 [(0, .ref (G.2.2.1 1)), (1, .int x1)] := hl
  exact w_X2_workedOrEmpty_0 ⟨B.exec, B.bytes, B.returns, B.notSynchronized, hml, hown, fun w h => hts w (List.mem_cons_of_mem _ h), hK, hC⟩ x1 I L Q  hv hP hD va_S.rf hl
abbrev rm_X2_workedDefinition : Room := { frames := 1, cells := 0, slots := 0, locals := 21 }
def vc_X2_workedDefinition_0 (x1 : Int32) (I : mm_I) (L : mm_L) (Q : Int64 → mm_I → mm_L → Prop) : Prop :=
  vp_in x1 8 ∧ vc_X2_workedOrEmpty (I 10 x1.toNatClampNeg) I L (fun r143 I141 L142 => Q r143 I141 L142)
set_option maxHeartbeats 4000000 in
set_option maxRecDepth 100000 in
theorem w_X2_workedDefinition_0 {p : Program} {l : Launch} {e : Env} {s : State} {m : MethodId} {args : Array Value} {below : List Frame} {meth : Method} {c : Code} {G : mm_G} (hcx : mm_cx c_X2_workedDefinition (some .long) 2 RX2 G p s m args meth c) (x1 : Int32) (I : mm_I) (L : mm_L) (Q : Int64 → mm_I → mm_L → Prop)  (hv : vc_X2_workedDefinition_0 x1 I L Q) {H : Heap} {locs : List Loc} (hP : mm_PW G I L H) (hD : mm_DW G I L) (hS : va_S G.2.2.2.1 s.heap H locs) {ls : Array Slot} (hl : lv_has ls 2 [(0, .ref (G.2.2.1 1)), (1, .int x1)]) : W p l e (headSpec w_X2_workedDefinition rm_X2_workedDefinition).room s m args below meth c H locs 0 0 (MQ below (mm_ql G Q) args s 0 0 G.2.2.2.1) (F0 m 0 ls []) := by
  obtain ⟨hx, hb, hr, hlocks, hml, hown, hg, hK, hC⟩ := id hcx
  unfold vc_X2_workedDefinition_0 at hv
  refine lv_aload_n hx hb d_X2_workedDefinition_0 rfl (lv_at hl 0 rfl) ?_
  refine lv_aload_n hx hb d_X2_workedDefinition_1 rfl (lv_at hl 0 rfl) ?_
  refine mm_gr (D := G.1) (C := RX2) (T := TX2) (N0 := 4) (r := 10) hx hb hg in_X2 hown hK hP (t := 1) (by decide) rfl rfl 1 (by decide) (hg _ k_66) (fun _ h9 => h9) rfl d_X2_workedDefinition_2 ?_
  refine lv_iload_n hx hb d_X2_workedDefinition_5 rfl (lv_at hl 1 rfl) ?_
  obtain ⟨h140, hv⟩ := hv
  refine mm_iald (D := G.1) hx hb hK hP (t := 10) (by decide) rfl rfl h140 d_X2_workedDefinition_6 ?_
  refine va_calll (va_runV (As := [.int (I 10 x1.toNatClampNeg)]) (rest := []) ⟨hx, hb, hml, hown, hg⟩ (m_X2_workedOrEmpty l G (I 10 x1.toNatClampNeg) I L _  hv) (cwV 1 hg (mm_gV k_67 k_68 k_69 k_70 kc_X2_workedOrEmpty) rfl rfl rfl (by decide +kernel) ⟨Nat.le_of_ble_eq_true rfl, Nat.le_of_ble_eq_true rfl⟩) ⟨mm_blind, mm_recv hK hP (t := 1) (by decide) rfl rfl, fun U hU hW => mm_call hP hK hD hC hU hS hW⟩ rfl rfl hl.1 rfl (lv_room (Nat.le_of_ble_eq_true rfl)) d_X2_workedDefinition_7 ⟨Nat.zero_le _, Nat.zero_le _⟩) hS (fun q _ h => h) (fun q h => h) (fun r143 u t H locs ht hvm hv hP hz1 hk1 hS => ?_)
  obtain ⟨I141, L142⟩ := u
  dsimp only at hv hP
  rw [ht] at hP
  have hD : mm_DW G I141 L142 := mm_D_any hD
  exact W.lret (v := r143) hx hb hr (fun t ht hW => ⟨⟨r143, (I141, L142), rfl, hv, mm_mv ht hP⟩, hS.F ht⟩) hS.2.2 d_X2_workedDefinition_10
abbrev vc_X2_workedDefinition (x1 : Int32) (I : mm_I) (L : mm_L) (Q : Int64 → mm_I → mm_L → Prop) : Prop := vc_X2_workedDefinition_0 x1 I L Q
set_option maxHeartbeats 4000000 in
set_option maxRecDepth 100000 in
theorem m_X2_workedDefinition (l : Launch) (G : mm_G) (x1 : Int32) (I : mm_I) (L : mm_L) (Q : Int64 → mm_I → mm_L → Prop)  (hv : vc_X2_workedDefinition x1 I L Q) : Met l y_X2_workedDefinition w_X2_workedDefinition rm_X2_workedDefinition (mm_pre G [.ref (G.2.2.1 1), .int x1] I L) (mm_ql G Q) 0 0 G.2.2.2.1 := by
  refine Met.ofW (cc := c_X2_workedDefinition) (maxL := 2) (ret := (some .long)) (by decide) rfl ?_
  intro p e s m args below meth c s₁ B hml hw
  obtain ⟨rfl, hP, hK, hD, hC⟩ := hw
  have hts := atoms_spec (ws := w_X2_workedDefinition) B.pre
  have hown : s.vm.findClass RX2 = some m.cls := findClass_of_methodNamed B.named
  have hl := lv_entry ([.ref (G.2.2.1 1), .int x1]) (n := 2) (Nat.le_of_ble_eq_true rfl)
  rw [lg_entry_eq]
  generalize (lg_sl ([.ref (G.2.2.1 1), .int x1]) ++ List.replicate (2 - (lg_sl ([.ref (G.2.2.1 1), .int x1])).length) Slot.unset).toArray = ls at hl ⊢
  have hl : lv_has ls 2 [(0, .ref (G.2.2.1 1)), (1, .int x1)] := hl
  exact w_X2_workedDefinition_0 ⟨B.exec, B.bytes, B.returns, B.notSynchronized, hml, hown, fun w h => hts w (List.mem_cons_of_mem _ h), hK, hC⟩ x1 I L Q  hv hP hD va_S.rf hl
abbrev rm_X1_paidSoFar : Room := { frames := 0, cells := 0, slots := 0, locals := 0 }
def vc_X1_paidSoFar_0 (p0 : Nat) (x1 : Int32) (I : mm_I) (L : mm_L) (Q : Int64 → mm_I → mm_L → Prop) : Prop :=
  (¬ x1 = 0 → Q (L (24 + p0) 2) I L) ∧ (x1 = 0 → Q (L (24 + p0) 1) I L)
set_option maxHeartbeats 4000000 in
set_option maxRecDepth 100000 in
theorem w_X1_paidSoFar_0 {p : Program} {l : Launch} {e : Env} {s : State} {m : MethodId} {args : Array Value} {below : List Frame} {meth : Method} {c : Code} {G : mm_G} (hcx : mm_cx c_X1_paidSoFar (some .long) 2 RX1 G p s m args meth c) (p0 : Nat) (x1 : Int32) (I : mm_I) (L : mm_L) (Q : Int64 → mm_I → mm_L → Prop) (hp0 : p0 < 6) (hv : vc_X1_paidSoFar_0 p0 x1 I L Q) {H : Heap} {locs : List Loc} (hP : mm_PW G I L H) (hD : mm_DW G I L) (hS : va_S G.2.2.2.1 s.heap H locs) {ls : Array Slot} (hl : lv_has ls 2 [(0, .ref (G.2.2.1 (24 + p0))), (1, .int x1)]) : W p l e (headSpec w_X1_paidSoFar rm_X1_paidSoFar).room s m args below meth c H locs 0 0 (MQ below (mm_ql G Q) args s 0 0 G.2.2.2.1) (F0 m 0 ls []) := by
  obtain ⟨hx, hb, hr, hlocks, hml, hown, hg, hK, hC⟩ := id hcx
  unfold vc_X1_paidSoFar_0 at hv
  refine lv_iload_n hx hb d_X1_paidSoFar_0 rfl (lv_at hl 1 rfl) ?_
  refine lv_if_ne (tgt := 11) hx hb d_X1_paidSoFar_1 (by decide) (fun hc => ?_) (fun hc => ?_)
  · have hv := hv.1 hc
    refine lv_aload_n hx hb d_X1_paidSoFar_11 rfl (lv_at hl 0 rfl) ?_
    refine mm_gl (D := G.1) (C := RX1) (T := TX1) (N0 := 4) hx hb hg in_X1 hown hK hP (t := (24 + p0)) (ly_N_PS hp0) (ly_PS hp0) rfl 2 (by decide) (hg _ k_60) (fun _ h9 => h9) rfl d_X1_paidSoFar_12 ?_
    exact W.lret (v := (L (24 + p0) 2)) hx hb hr (fun t ht hW => ⟨⟨(L (24 + p0) 2), (I, L), rfl, hv, mm_mv ht hP⟩, hS.F ht⟩) hS.2.2 d_X1_paidSoFar_15
  · have hv := hv.2 hc
    refine lv_aload_n hx hb d_X1_paidSoFar_4 rfl (lv_at hl 0 rfl) ?_
    refine mm_gl (D := G.1) (C := RX1) (T := TX1) (N0 := 4) hx hb hg in_X1 hown hK hP (t := (24 + p0)) (ly_N_PS hp0) (ly_PS hp0) rfl 1 (by decide) (hg _ k_59) (fun _ h9 => h9) rfl d_X1_paidSoFar_5 ?_
    refine lv_goto (tgt := 15) hx hb d_X1_paidSoFar_8 (by decide) ?_
    exact W.lret (v := (L (24 + p0) 1)) hx hb hr (fun t ht hW => ⟨⟨(L (24 + p0) 1), (I, L), rfl, hv, mm_mv ht hP⟩, hS.F ht⟩) hS.2.2 d_X1_paidSoFar_15
abbrev vc_X1_paidSoFar (p0 : Nat) (x1 : Int32) (I : mm_I) (L : mm_L) (Q : Int64 → mm_I → mm_L → Prop) : Prop := vc_X1_paidSoFar_0 p0 x1 I L Q
set_option maxHeartbeats 4000000 in
set_option maxRecDepth 100000 in
theorem m_X1_paidSoFar (l : Launch) (G : mm_G) (p0 : Nat) (x1 : Int32) (I : mm_I) (L : mm_L) (Q : Int64 → mm_I → mm_L → Prop) (hp0 : p0 < 6) (hv : vc_X1_paidSoFar p0 x1 I L Q) : Met l y_X1_paidSoFar w_X1_paidSoFar rm_X1_paidSoFar (mm_pre G [.ref (G.2.2.1 (24 + p0)), .int x1] I L) (mm_ql G Q) 0 0 G.2.2.2.1 := by
  refine Met.ofW (cc := c_X1_paidSoFar) (maxL := 2) (ret := (some .long)) (by decide) rfl ?_
  intro p e s m args below meth c s₁ B hml hw
  obtain ⟨rfl, hP, hK, hD, hC⟩ := hw
  have hts := atoms_spec (ws := w_X1_paidSoFar) B.pre
  have hown : s.vm.findClass RX1 = some m.cls := findClass_of_methodNamed B.named
  have hl := lv_entry ([.ref (G.2.2.1 (24 + p0)), .int x1]) (n := 2) (Nat.le_of_ble_eq_true rfl)
  rw [lg_entry_eq]
  generalize (lg_sl ([.ref (G.2.2.1 (24 + p0)), .int x1]) ++ List.replicate (2 - (lg_sl ([.ref (G.2.2.1 (24 + p0)), .int x1])).length) Slot.unset).toArray = ls at hl ⊢
  have hl : lv_has ls 2 [(0, .ref (G.2.2.1 (24 + p0))), (1, .int x1)] := hl
  exact w_X1_paidSoFar_0 ⟨B.exec, B.bytes, B.returns, B.notSynchronized, hml, hown, fun w h => hts w (List.mem_cons_of_mem _ h), hK, hC⟩ p0 x1 I L Q hp0 hv hP hD va_S.rf hl
abbrev rm_X5_faultOf : Room := { frames := 0, cells := 0, slots := 0, locals := 0 }
def vc_X5_faultOf_0 (x0 : Int64) (I : mm_I) (L : mm_L) (Q : Int64 → mm_I → mm_L → Prop) : Prop :=
  (¬ x0 = 1000000000001 → Q x0 I L) ∧ (x0 = 1000000000001 → Q 1000000000102 I L)
set_option maxHeartbeats 4000000 in
set_option maxRecDepth 100000 in
theorem w_X5_faultOf_0 {p : Program} {l : Launch} {e : Env} {s : State} {m : MethodId} {args : Array Value} {below : List Frame} {meth : Method} {c : Code} {G : mm_G} (hcx : mm_cx c_X5_faultOf (some .long) 2 RX5 G p s m args meth c) (x0 : Int64) (I : mm_I) (L : mm_L) (Q : Int64 → mm_I → mm_L → Prop)  (hv : vc_X5_faultOf_0 x0 I L Q) {H : Heap} {locs : List Loc} (hP : mm_PW G I L H) (hD : mm_DW G I L) (hS : va_S G.2.2.2.1 s.heap H locs) {ls : Array Slot} (hl : lv_has ls 2 [(0, .long x0)]) : W p l e (headSpec w_X5_faultOf rm_X5_faultOf).room s m args below meth c H locs 0 0 (MQ below (mm_ql G Q) args s 0 0 G.2.2.2.1) (F0 m 0 ls []) := by
  obtain ⟨hx, hb, hr, hlocks, hml, hown, hg, hK, hC⟩ := id hcx
  unfold vc_X5_faultOf_0 at hv
  refine lv_lload_n hx hb d_X5_faultOf_0 rfl (lv_at hl 0 rfl) ?_
  refine lv_ldc2 (v := 1000000000001) hx hb hown (hg _ k_71) d_X5_faultOf_1 ?_
  refine W.lcmp hx hb d_X5_faultOf_4 ?_
  refine lv_if_ne (tgt := 14) hx hb d_X5_faultOf_5 (by decide) (fun hc => ?_) (fun hc => ?_)
  · have hv := hv.1 (fun q => hc ((lg_cmp_eq _ _).mpr q))
    refine lv_lload_n hx hb d_X5_faultOf_14 rfl (lv_at hl 0 rfl) ?_
    exact W.lret (v := x0) hx hb hr (fun t ht hW => ⟨⟨x0, (I, L), rfl, hv, mm_mv ht hP⟩, hS.F ht⟩) hS.2.2 d_X5_faultOf_15
  · have hv := hv.2 ((lg_cmp_eq _ _).mp hc)
    refine lv_ldc2 (v := 1000000000102) hx hb hown (hg _ k_72) d_X5_faultOf_8 ?_
    refine lv_goto (tgt := 15) hx hb d_X5_faultOf_11 (by decide) ?_
    exact W.lret (v := 1000000000102) hx hb hr (fun t ht hW => ⟨⟨1000000000102, (I, L), rfl, hv, mm_mv ht hP⟩, hS.F ht⟩) hS.2.2 d_X5_faultOf_15
abbrev vc_X5_faultOf (x0 : Int64) (I : mm_I) (L : mm_L) (Q : Int64 → mm_I → mm_L → Prop) : Prop := vc_X5_faultOf_0 x0 I L Q
set_option maxHeartbeats 4000000 in
set_option maxRecDepth 100000 in
theorem m_X5_faultOf (l : Launch) (G : mm_G) (x0 : Int64) (I : mm_I) (L : mm_L) (Q : Int64 → mm_I → mm_L → Prop)  (hv : vc_X5_faultOf x0 I L Q) : Met l y_X5_faultOf w_X5_faultOf rm_X5_faultOf (mm_pre G [.long x0] I L) (mm_ql G Q) 0 0 G.2.2.2.1 := by
  refine Met.ofW (cc := c_X5_faultOf) (maxL := 2) (ret := (some .long)) (by decide) rfl ?_
  intro p e s m args below meth c s₁ B hml hw
  obtain ⟨rfl, hP, hK, hD, hC⟩ := hw
  have hts := atoms_spec (ws := w_X5_faultOf) B.pre
  have hown : s.vm.findClass RX5 = some m.cls := findClass_of_methodNamed B.named
  have hl := lv_entry ([.long x0]) (n := 2) (Nat.le_of_ble_eq_true rfl)
  rw [lg_entry_eq]
  generalize (lg_sl ([.long x0]) ++ List.replicate (2 - (lg_sl ([.long x0])).length) Slot.unset).toArray = ls at hl ⊢
  have hl : lv_has ls 2 [(0, .long x0)] := hl
  exact w_X5_faultOf_0 ⟨B.exec, B.bytes, B.returns, B.notSynchronized, hml, hown, fun w h => hts w (List.mem_cons_of_mem _ h), hK, hC⟩ x0 I L Q  hv hP hD va_S.rf hl
abbrev rm_X5_rounded : Room := { frames := 0, cells := 0, slots := 0, locals := 0 }
def vc_X5_rounded_86 (x8 : Int64) (xs0 : Int32) (xs1 : Int32) (I : mm_I) (L : mm_L) (Q : Int64 → mm_I → mm_L → Prop) : Prop :=
  (¬ xs1 = xs0 → Q (-x8) I L) ∧ (xs1 = xs0 → Q x8 I L)
def vc_X5_rounded_75 (x2 : Int64) (x8 : Int64) (xs0 : Int32) (I : mm_I) (L : mm_L) (Q : Int64 → mm_I → mm_L → Prop) : Prop :=
  (0 ≤ x2 → vc_X5_rounded_86 x8 0 xs0 I L Q) ∧ (¬ 0 ≤ x2 → vc_X5_rounded_86 x8 1 xs0 I L Q)
def vc_X5_rounded_64 (x0 : Int64) (x2 : Int64) (x8 : Int64) (I : mm_I) (L : mm_L) (Q : Int64 → mm_I → mm_L → Prop) : Prop :=
  (0 ≤ x0 → vc_X5_rounded_75 x2 x8 0 I L Q) ∧ (¬ 0 ≤ x0 → vc_X5_rounded_75 x2 x8 1 I L Q)
def vc_X5_rounded_34 (x0 : Int64) (x2 : Int64) (x4 : Int64) (xs0 : Int64) (I : mm_I) (L : mm_L) (Q : Int64 → mm_I → mm_L → Prop) : Prop :=
  (¬ xs0 = 0) ∧ (¬ xs0 = 0) ∧ ((2 * (x4 - x4 / xs0 * xs0)) < xs0 → vc_X5_rounded_64 x0 x2 (x4 / xs0) I L Q) ∧ (¬ (2 * (x4 - x4 / xs0 * xs0)) < xs0 → vc_X5_rounded_64 x0 x2 ((x4 / xs0) + 1) I L Q)
def vc_X5_rounded_20 (x0 : Int64) (x2 : Int64) (xs0 : Int64) (I : mm_I) (L : mm_L) (Q : Int64 → mm_I → mm_L → Prop) : Prop :=
  (0 ≤ x2 → vc_X5_rounded_34 x0 x2 xs0 x2 I L Q) ∧ (¬ 0 ≤ x2 → vc_X5_rounded_34 x0 x2 xs0 (-x2) I L Q)
def vc_X5_rounded_0 (x0 : Int64) (x2 : Int64) (I : mm_I) (L : mm_L) (Q : Int64 → mm_I → mm_L → Prop) : Prop :=
  (¬ x2 = 0 → (0 ≤ x0 → vc_X5_rounded_20 x0 x2 x0 I L Q) ∧ (¬ 0 ≤ x0 → vc_X5_rounded_20 x0 x2 (-x0) I L Q)) ∧ (x2 = 0 → Q 0 I L)
set_option maxHeartbeats 4000000 in
set_option maxRecDepth 100000 in
theorem w_X5_rounded_86 {p : Program} {l : Launch} {e : Env} {s : State} {m : MethodId} {args : Array Value} {below : List Frame} {meth : Method} {c : Code} {G : mm_G} (hcx : mm_cx c_X5_rounded (some .long) 10 RX5 G p s m args meth c) (x8 : Int64) (xs0 : Int32) (xs1 : Int32) (I : mm_I) (L : mm_L) (Q : Int64 → mm_I → mm_L → Prop)  (hv : vc_X5_rounded_86 x8 xs0 xs1 I L Q) {H : Heap} {locs : List Loc} (hP : mm_PW G I L H) (hD : mm_DW G I L) (hS : va_S G.2.2.2.1 s.heap H locs) {ls : Array Slot} (hl : lv_has ls 10 [(8, .long x8)]) : W p l e (headSpec w_X5_rounded rm_X5_rounded).room s m args below meth c H locs 0 0 (MQ below (mm_ql G Q) args s 0 0 G.2.2.2.1) (F0 m 86 ls [.int xs0, .int xs1]) := by
  obtain ⟨hx, hb, hr, hlocks, hml, hown, hg, hK, hC⟩ := id hcx
  unfold vc_X5_rounded_86 at hv
  refine lv_icmp_ne (tgt := 94) hx hb d_X5_rounded_86 (by decide) (fun hc => ?_) (fun hc => ?_)
  · have hv := hv.1 hc
    refine lv_lload hx hb d_X5_rounded_94 (lv_at hl 0 rfl) ?_
    refine lv_lneg hx hb d_X5_rounded_96 ?_
    exact W.lret (v := (-x8)) hx hb hr (fun t ht hW => ⟨⟨(-x8), (I, L), rfl, hv, mm_mv ht hP⟩, hS.F ht⟩) hS.2.2 d_X5_rounded_97
  · have hv := hv.2 hc
    refine lv_lload hx hb d_X5_rounded_89 (lv_at hl 0 rfl) ?_
    refine lv_goto (tgt := 97) hx hb d_X5_rounded_91 (by decide) ?_
    exact W.lret (v := x8) hx hb hr (fun t ht hW => ⟨⟨x8, (I, L), rfl, hv, mm_mv ht hP⟩, hS.F ht⟩) hS.2.2 d_X5_rounded_97
set_option maxHeartbeats 4000000 in
set_option maxRecDepth 100000 in
theorem w_X5_rounded_75 {p : Program} {l : Launch} {e : Env} {s : State} {m : MethodId} {args : Array Value} {below : List Frame} {meth : Method} {c : Code} {G : mm_G} (hcx : mm_cx c_X5_rounded (some .long) 10 RX5 G p s m args meth c) (x2 : Int64) (x8 : Int64) (xs0 : Int32) (I : mm_I) (L : mm_L) (Q : Int64 → mm_I → mm_L → Prop)  (hv : vc_X5_rounded_75 x2 x8 xs0 I L Q) {H : Heap} {locs : List Loc} (hP : mm_PW G I L H) (hD : mm_DW G I L) (hS : va_S G.2.2.2.1 s.heap H locs) {ls : Array Slot} (hl : lv_has ls 10 [(2, .long x2), (8, .long x8)]) : W p l e (headSpec w_X5_rounded rm_X5_rounded).room s m args below meth c H locs 0 0 (MQ below (mm_ql G Q) args s 0 0 G.2.2.2.1) (F0 m 75 ls [.int xs0]) := by
  obtain ⟨hx, hb, hr, hlocks, hml, hown, hg, hK, hC⟩ := id hcx
  unfold vc_X5_rounded_75 at hv
  refine lv_lload_n hx hb d_X5_rounded_75 rfl (lv_at hl 0 rfl) ?_
  refine lv_lconst (v := 0) hx hb d_X5_rounded_76 (by decide) ?_
  refine W.lcmp hx hb d_X5_rounded_77 ?_
  refine lv_if_ge (tgt := 85) hx hb d_X5_rounded_78 (by decide) (fun hc => ?_) (fun hc => ?_)
  · have hv := hv.1 ((lg_cmp_ge _ _).mp hc)
    refine lv_iconst (v := 0) hx hb d_X5_rounded_85 (by decide) ?_
    exact w_X5_rounded_86 hcx x8 0 xs0 I L Q  hv hP hD hS (lv_sub hl [1] rfl)
  · have hv := hv.2 (fun q => hc ((lg_cmp_ge _ _).mpr q))
    refine lv_iconst (v := 1) hx hb d_X5_rounded_81 (by decide) ?_
    refine lv_goto (tgt := 86) hx hb d_X5_rounded_82 (by decide) ?_
    exact w_X5_rounded_86 hcx x8 1 xs0 I L Q  hv hP hD hS (lv_sub hl [1] rfl)
set_option maxHeartbeats 4000000 in
set_option maxRecDepth 100000 in
theorem w_X5_rounded_64 {p : Program} {l : Launch} {e : Env} {s : State} {m : MethodId} {args : Array Value} {below : List Frame} {meth : Method} {c : Code} {G : mm_G} (hcx : mm_cx c_X5_rounded (some .long) 10 RX5 G p s m args meth c) (x0 : Int64) (x2 : Int64) (x8 : Int64) (I : mm_I) (L : mm_L) (Q : Int64 → mm_I → mm_L → Prop)  (hv : vc_X5_rounded_64 x0 x2 x8 I L Q) {H : Heap} {locs : List Loc} (hP : mm_PW G I L H) (hD : mm_DW G I L) (hS : va_S G.2.2.2.1 s.heap H locs) {ls : Array Slot} (hl : lv_has ls 10 [(0, .long x0), (2, .long x2), (8, .long x8)]) : W p l e (headSpec w_X5_rounded rm_X5_rounded).room s m args below meth c H locs 0 0 (MQ below (mm_ql G Q) args s 0 0 G.2.2.2.1) (F0 m 64 ls []) := by
  obtain ⟨hx, hb, hr, hlocks, hml, hown, hg, hK, hC⟩ := id hcx
  unfold vc_X5_rounded_64 at hv
  refine lv_lload_n hx hb d_X5_rounded_64 rfl (lv_at hl 0 rfl) ?_
  refine lv_lconst (v := 0) hx hb d_X5_rounded_65 (by decide) ?_
  refine W.lcmp hx hb d_X5_rounded_66 ?_
  refine lv_if_ge (tgt := 74) hx hb d_X5_rounded_67 (by decide) (fun hc => ?_) (fun hc => ?_)
  · have hv := hv.1 ((lg_cmp_ge _ _).mp hc)
    refine lv_iconst (v := 0) hx hb d_X5_rounded_74 (by decide) ?_
    exact w_X5_rounded_75 hcx x2 x8 0 I L Q  hv hP hD hS (lv_sub hl [1, 2] rfl)
  · have hv := hv.2 (fun q => hc ((lg_cmp_ge _ _).mpr q))
    refine lv_iconst (v := 1) hx hb d_X5_rounded_70 (by decide) ?_
    refine lv_goto (tgt := 75) hx hb d_X5_rounded_71 (by decide) ?_
    exact w_X5_rounded_75 hcx x2 x8 1 I L Q  hv hP hD hS (lv_sub hl [1, 2] rfl)
set_option maxHeartbeats 4000000 in
set_option maxRecDepth 100000 in
theorem w_X5_rounded_34 {p : Program} {l : Launch} {e : Env} {s : State} {m : MethodId} {args : Array Value} {below : List Frame} {meth : Method} {c : Code} {G : mm_G} (hcx : mm_cx c_X5_rounded (some .long) 10 RX5 G p s m args meth c) (x0 : Int64) (x2 : Int64) (x4 : Int64) (xs0 : Int64) (I : mm_I) (L : mm_L) (Q : Int64 → mm_I → mm_L → Prop)  (hv : vc_X5_rounded_34 x0 x2 x4 xs0 I L Q) {H : Heap} {locs : List Loc} (hP : mm_PW G I L H) (hD : mm_DW G I L) (hS : va_S G.2.2.2.1 s.heap H locs) {ls : Array Slot} (hl : lv_has ls 10 [(0, .long x0), (2, .long x2), (4, .long x4)]) : W p l e (headSpec w_X5_rounded rm_X5_rounded).room s m args below meth c H locs 0 0 (MQ below (mm_ql G Q) args s 0 0 G.2.2.2.1) (F0 m 34 ls [.long xs0]) := by
  obtain ⟨hx, hb, hr, hlocks, hml, hown, hg, hK, hC⟩ := id hcx
  unfold vc_X5_rounded_34 at hv
  refine lv_lstore (lv' := [(6, .long xs0), (0, .long x0), (2, .long x2), (4, .long x4)]) hx hb d_X5_rounded_34 hl (by decide) rfl (fun ls hl => ?_)
  refine lv_lload hx hb d_X5_rounded_36 (lv_at hl 3 rfl) ?_
  refine lv_lload hx hb d_X5_rounded_38 (lv_at hl 0 rfl) ?_
  obtain ⟨h144, hv⟩ := hv
  refine lv_ldiv hx hb d_X5_rounded_40 h144 ?_
  refine lv_lstore (lv' := [(8, .long (x4 / xs0)), (6, .long xs0), (0, .long x0), (2, .long x2), (4, .long x4)]) hx hb d_X5_rounded_41 hl (by decide) rfl (fun ls hl => ?_)
  refine lv_ldc2 (v := 2) hx hb hown (hg _ k_73) d_X5_rounded_43 ?_
  refine lv_lload hx hb d_X5_rounded_46 (lv_at hl 4 rfl) ?_
  refine lv_lload hx hb d_X5_rounded_48 (lv_at hl 1 rfl) ?_
  obtain ⟨h145, hv⟩ := hv
  refine lv_lrem hx hb d_X5_rounded_50 h145 ?_
  refine lv_lmul hx hb d_X5_rounded_51 ?_
  refine lv_lload hx hb d_X5_rounded_52 (lv_at hl 1 rfl) ?_
  refine W.lcmp hx hb d_X5_rounded_54 ?_
  refine lv_if_lt (tgt := 64) hx hb d_X5_rounded_55 (by decide) (fun hc => ?_) (fun hc => ?_)
  · have hv := hv.1 ((lg_cmp_lt _ _).mp hc)
    exact w_X5_rounded_64 hcx x0 x2 (x4 / xs0) I L Q  hv hP hD hS (lv_sub hl [2, 3, 0] rfl)
  · have hv := hv.2 (fun q => hc ((lg_cmp_lt _ _).mpr q))
    refine lv_lload hx hb d_X5_rounded_58 (lv_at hl 0 rfl) ?_
    refine lv_lconst (v := 1) hx hb d_X5_rounded_60 (by decide) ?_
    refine lv_ladd hx hb d_X5_rounded_61 ?_
    refine lv_lstore (lv' := [(8, .long ((x4 / xs0) + 1)), (6, .long xs0), (0, .long x0), (2, .long x2), (4, .long x4)]) hx hb d_X5_rounded_62 hl (by decide) rfl (fun ls hl => ?_)
    exact w_X5_rounded_64 hcx x0 x2 ((x4 / xs0) + 1) I L Q  hv hP hD hS (lv_sub hl [2, 3, 0] rfl)
set_option maxHeartbeats 4000000 in
set_option maxRecDepth 100000 in
theorem w_X5_rounded_20 {p : Program} {l : Launch} {e : Env} {s : State} {m : MethodId} {args : Array Value} {below : List Frame} {meth : Method} {c : Code} {G : mm_G} (hcx : mm_cx c_X5_rounded (some .long) 10 RX5 G p s m args meth c) (x0 : Int64) (x2 : Int64) (xs0 : Int64) (I : mm_I) (L : mm_L) (Q : Int64 → mm_I → mm_L → Prop)  (hv : vc_X5_rounded_20 x0 x2 xs0 I L Q) {H : Heap} {locs : List Loc} (hP : mm_PW G I L H) (hD : mm_DW G I L) (hS : va_S G.2.2.2.1 s.heap H locs) {ls : Array Slot} (hl : lv_has ls 10 [(0, .long x0), (2, .long x2)]) : W p l e (headSpec w_X5_rounded rm_X5_rounded).room s m args below meth c H locs 0 0 (MQ below (mm_ql G Q) args s 0 0 G.2.2.2.1) (F0 m 20 ls [.long xs0]) := by
  obtain ⟨hx, hb, hr, hlocks, hml, hown, hg, hK, hC⟩ := id hcx
  unfold vc_X5_rounded_20 at hv
  refine lv_lstore (lv' := [(4, .long xs0), (0, .long x0), (2, .long x2)]) hx hb d_X5_rounded_20 hl (by decide) rfl (fun ls hl => ?_)
  refine lv_lload_n hx hb d_X5_rounded_22 rfl (lv_at hl 2 rfl) ?_
  refine lv_lconst (v := 0) hx hb d_X5_rounded_23 (by decide) ?_
  refine W.lcmp hx hb d_X5_rounded_24 ?_
  refine lv_if_ge (tgt := 33) hx hb d_X5_rounded_25 (by decide) (fun hc => ?_) (fun hc => ?_)
  · have hv := hv.1 ((lg_cmp_ge _ _).mp hc)
    refine lv_lload_n hx hb d_X5_rounded_33 rfl (lv_at hl 2 rfl) ?_
    exact w_X5_rounded_34 hcx x0 x2 xs0 x2 I L Q  hv hP hD hS (lv_sub hl [1, 2, 0] rfl)
  · have hv := hv.2 (fun q => hc ((lg_cmp_ge _ _).mpr q))
    refine lv_lload_n hx hb d_X5_rounded_28 rfl (lv_at hl 2 rfl) ?_
    refine lv_lneg hx hb d_X5_rounded_29 ?_
    refine lv_goto (tgt := 34) hx hb d_X5_rounded_30 (by decide) ?_
    exact w_X5_rounded_34 hcx x0 x2 xs0 (-x2) I L Q  hv hP hD hS (lv_sub hl [1, 2, 0] rfl)
set_option maxHeartbeats 4000000 in
set_option maxRecDepth 100000 in
theorem w_X5_rounded_0 {p : Program} {l : Launch} {e : Env} {s : State} {m : MethodId} {args : Array Value} {below : List Frame} {meth : Method} {c : Code} {G : mm_G} (hcx : mm_cx c_X5_rounded (some .long) 10 RX5 G p s m args meth c) (x0 : Int64) (x2 : Int64) (I : mm_I) (L : mm_L) (Q : Int64 → mm_I → mm_L → Prop)  (hv : vc_X5_rounded_0 x0 x2 I L Q) {H : Heap} {locs : List Loc} (hP : mm_PW G I L H) (hD : mm_DW G I L) (hS : va_S G.2.2.2.1 s.heap H locs) {ls : Array Slot} (hl : lv_has ls 10 [(0, .long x0), (2, .long x2)]) : W p l e (headSpec w_X5_rounded rm_X5_rounded).room s m args below meth c H locs 0 0 (MQ below (mm_ql G Q) args s 0 0 G.2.2.2.1) (F0 m 0 ls []) := by
  obtain ⟨hx, hb, hr, hlocks, hml, hown, hg, hK, hC⟩ := id hcx
  unfold vc_X5_rounded_0 at hv
  refine lv_lload_n hx hb d_X5_rounded_0 rfl (lv_at hl 1 rfl) ?_
  refine lv_lconst (v := 0) hx hb d_X5_rounded_1 (by decide) ?_
  refine W.lcmp hx hb d_X5_rounded_2 ?_
  refine lv_if_ne (tgt := 8) hx hb d_X5_rounded_3 (by decide) (fun hc => ?_) (fun hc => ?_)
  · have hv := hv.1 (fun q => hc ((lg_cmp_eq _ _).mpr q))
    refine lv_lload_n hx hb d_X5_rounded_8 rfl (lv_at hl 0 rfl) ?_
    refine lv_lconst (v := 0) hx hb d_X5_rounded_9 (by decide) ?_
    refine W.lcmp hx hb d_X5_rounded_10 ?_
    refine lv_if_ge (tgt := 19) hx hb d_X5_rounded_11 (by decide) (fun hc => ?_) (fun hc => ?_)
    · have hv := hv.1 ((lg_cmp_ge _ _).mp hc)
      refine lv_lload_n hx hb d_X5_rounded_19 rfl (lv_at hl 0 rfl) ?_
      exact w_X5_rounded_20 hcx x0 x2 x0 I L Q  hv hP hD hS (lv_sub hl [0, 1] rfl)
    · have hv := hv.2 (fun q => hc ((lg_cmp_ge _ _).mpr q))
      refine lv_lload_n hx hb d_X5_rounded_14 rfl (lv_at hl 0 rfl) ?_
      refine lv_lneg hx hb d_X5_rounded_15 ?_
      refine lv_goto (tgt := 20) hx hb d_X5_rounded_16 (by decide) ?_
      exact w_X5_rounded_20 hcx x0 x2 (-x0) I L Q  hv hP hD hS (lv_sub hl [0, 1] rfl)
  · have hv := hv.2 ((lg_cmp_eq _ _).mp hc)
    refine lv_lconst (v := 0) hx hb d_X5_rounded_6 (by decide) ?_
    exact W.lret (v := 0) hx hb hr (fun t ht hW => ⟨⟨0, (I, L), rfl, hv, mm_mv ht hP⟩, hS.F ht⟩) hS.2.2 d_X5_rounded_7
abbrev vc_X5_rounded (x0 : Int64) (x2 : Int64) (I : mm_I) (L : mm_L) (Q : Int64 → mm_I → mm_L → Prop) : Prop := vc_X5_rounded_0 x0 x2 I L Q
set_option maxHeartbeats 4000000 in
set_option maxRecDepth 100000 in
theorem m_X5_rounded (l : Launch) (G : mm_G) (x0 : Int64) (x2 : Int64) (I : mm_I) (L : mm_L) (Q : Int64 → mm_I → mm_L → Prop)  (hv : vc_X5_rounded x0 x2 I L Q) : Met l y_X5_rounded w_X5_rounded rm_X5_rounded (mm_pre G [.long x0, .long x2] I L) (mm_ql G Q) 0 0 G.2.2.2.1 := by
  refine Met.ofW (cc := c_X5_rounded) (maxL := 10) (ret := (some .long)) (by decide) rfl ?_
  intro p e s m args below meth c s₁ B hml hw
  obtain ⟨rfl, hP, hK, hD, hC⟩ := hw
  have hts := atoms_spec (ws := w_X5_rounded) B.pre
  have hown : s.vm.findClass RX5 = some m.cls := findClass_of_methodNamed B.named
  have hl := lv_entry ([.long x0, .long x2]) (n := 10) (Nat.le_of_ble_eq_true rfl)
  rw [lg_entry_eq]
  generalize (lg_sl ([.long x0, .long x2]) ++ List.replicate (10 - (lg_sl ([.long x0, .long x2])).length) Slot.unset).toArray = ls at hl ⊢
  have hl : lv_has ls 10 [(0, .long x0), (2, .long x2)] := hl
  exact w_X5_rounded_0 ⟨B.exec, B.bytes, B.returns, B.notSynchronized, hml, hown, fun w h => hts w (List.mem_cons_of_mem _ h), hK, hC⟩ x0 x2 I L Q  hv hP hD va_S.rf hl
abbrev rm_X5_share : Room := { frames := 1, cells := 0, slots := 0, locals := 29 }
def vc_X5_share_0 (x0 : Int64) (x2 : Int64) (x4 : Int64) (I : mm_I) (L : mm_L) (Q : Int64 → mm_I → mm_L → Prop) : Prop :=
  vc_X5_isInt x0 I L (fun r148 I146 L147 => (¬ r148 = 0 → vc_X5_isInt x2 I146 L147 (fun r151 I149 L150 => (¬ r151 = 0 → vc_X5_isInt x4 I149 L150 (fun r154 I152 L153 => (¬ r154 = 0 → (¬ x4 = 0 → vc_X5_rounded (x0 * x2) x4 I152 L153 (fun r157 I155 L156 => vc_X5_isInt r157 I155 L156 (fun r160 I158 L159 => (r160 = 0 → Q 1000000000104 I158 L159) ∧ (¬ r160 = 0 → Q r157 I158 L159)))) ∧ (x4 = 0 → Q 1000000000103 I152 L153)) ∧ (r154 = 0 → vc_X5_faultOf x4 I152 L153 (fun r163 I161 L162 => Q r163 I161 L162)))) ∧ (r151 = 0 → vc_X5_faultOf x2 I149 L150 (fun r166 I164 L165 => Q r166 I164 L165)))) ∧ (r148 = 0 → vc_X5_faultOf x0 I146 L147 (fun r169 I167 L168 => Q r169 I167 L168)))
set_option maxHeartbeats 4000000 in
set_option maxRecDepth 100000 in
theorem w_X5_share_0 {p : Program} {l : Launch} {e : Env} {s : State} {m : MethodId} {args : Array Value} {below : List Frame} {meth : Method} {c : Code} {G : mm_G} (hcx : mm_cx c_X5_share (some .long) 8 RX5 G p s m args meth c) (x0 : Int64) (x2 : Int64) (x4 : Int64) (I : mm_I) (L : mm_L) (Q : Int64 → mm_I → mm_L → Prop)  (hv : vc_X5_share_0 x0 x2 x4 I L Q) {H : Heap} {locs : List Loc} (hP : mm_PW G I L H) (hD : mm_DW G I L) (hS : va_S G.2.2.2.1 s.heap H locs) {ls : Array Slot} (hl : lv_has ls 8 [(0, .long x0), (2, .long x2), (4, .long x4)]) : W p l e (headSpec w_X5_share rm_X5_share).room s m args below meth c H locs 0 0 (MQ below (mm_ql G Q) args s 0 0 G.2.2.2.1) (F0 m 0 ls []) := by
  obtain ⟨hx, hb, hr, hlocks, hml, hown, hg, hK, hC⟩ := id hcx
  unfold vc_X5_share_0 at hv
  refine lv_lload_n hx hb d_X5_share_0 rfl (lv_at hl 0 rfl) ?_
  refine va_calli (va_runS (As := [.long x0]) (rest := []) ⟨hx, hb, hml, hown, hg⟩ (m_X5_isInt l G x0 I L _  hv) (va_cwS 1 hg (mm_gS k_75 k_62 k_63 kc_X5_isInt) rfl rfl rfl (by decide +kernel) ⟨Nat.le_of_ble_eq_true rfl, Nat.le_of_ble_eq_true rfl⟩) ⟨mm_blind, fun U hU hW => mm_call hP hK hD hC hU hS hW⟩ rfl rfl hl.1 rfl (lv_room (Nat.le_of_ble_eq_true rfl)) d_X5_share_1 ⟨Nat.zero_le _, Nat.zero_le _⟩) hS (fun q _ h => h) (fun q h => h) (fun r148 u t H locs ht hvm hv hP hz1 hk1 hS => ?_)
  obtain ⟨I146, L147⟩ := u
  dsimp only at hv hP
  rw [ht] at hP
  have hD : mm_DW G I146 L147 := mm_D_any hD
  refine lv_if_ne (tgt := 12) hx hb d_X5_share_4 (by decide) (fun hc => ?_) (fun hc => ?_)
  · have hv := hv.1 hc
    refine lv_lload_n hx hb d_X5_share_12 rfl (lv_at hl 1 rfl) ?_
    refine va_calli (va_runS (As := [.long x2]) (rest := []) ⟨hx, hb, hml, hown, hg⟩ (m_X5_isInt l G x2 I146 L147 _  hv) (va_cwS 1 hg (mm_gS k_75 k_62 k_63 kc_X5_isInt) rfl rfl rfl (by decide +kernel) ⟨Nat.le_of_ble_eq_true rfl, Nat.le_of_ble_eq_true rfl⟩) ⟨mm_blind, fun U hU hW => mm_call hP hK hD hC hU hS hW⟩ rfl rfl hl.1 rfl (lv_room (Nat.le_of_ble_eq_true rfl)) d_X5_share_13 ⟨Nat.zero_le _, Nat.zero_le _⟩) hS (fun q _ h => h) (fun q h => h) (fun r151 u t H locs ht hvm hv hP hz1 hk1 hS => ?_)
    obtain ⟨I149, L150⟩ := u
    dsimp only at hv hP
    rw [ht] at hP
    have hD : mm_DW G I149 L150 := mm_D_any hD
    refine lv_if_ne (tgt := 24) hx hb d_X5_share_16 (by decide) (fun hc => ?_) (fun hc => ?_)
    · have hv := hv.1 hc
      refine lv_lload hx hb d_X5_share_24 (lv_at hl 2 rfl) ?_
      refine va_calli (va_runS (As := [.long x4]) (rest := []) ⟨hx, hb, hml, hown, hg⟩ (m_X5_isInt l G x4 I149 L150 _  hv) (va_cwS 1 hg (mm_gS k_75 k_62 k_63 kc_X5_isInt) rfl rfl rfl (by decide +kernel) ⟨Nat.le_of_ble_eq_true rfl, Nat.le_of_ble_eq_true rfl⟩) ⟨mm_blind, fun U hU hW => mm_call hP hK hD hC hU hS hW⟩ rfl rfl hl.1 rfl (lv_room (Nat.le_of_ble_eq_true rfl)) d_X5_share_26 ⟨Nat.zero_le _, Nat.zero_le _⟩) hS (fun q _ h => h) (fun q h => h) (fun r154 u t H locs ht hvm hv hP hz1 hk1 hS => ?_)
      obtain ⟨I152, L153⟩ := u
      dsimp only at hv hP
      rw [ht] at hP
      have hD : mm_DW G I152 L153 := mm_D_any hD
      refine lv_if_ne (tgt := 38) hx hb d_X5_share_29 (by decide) (fun hc => ?_) (fun hc => ?_)
      · have hv := hv.1 hc
        refine lv_lload hx hb d_X5_share_38 (lv_at hl 2 rfl) ?_
        refine lv_lconst (v := 0) hx hb d_X5_share_40 (by decide) ?_
        refine W.lcmp hx hb d_X5_share_41 ?_
        refine lv_if_ne (tgt := 49) hx hb d_X5_share_42 (by decide) (fun hc => ?_) (fun hc => ?_)
        · have hv := hv.1 (fun q => hc ((lg_cmp_eq _ _).mpr q))
          refine lv_lload_n hx hb d_X5_share_49 rfl (lv_at hl 0 rfl) ?_
          refine lv_lload_n hx hb d_X5_share_50 rfl (lv_at hl 1 rfl) ?_
          refine lv_lmul hx hb d_X5_share_51 ?_
          refine lv_lload hx hb d_X5_share_52 (lv_at hl 2 rfl) ?_
          refine va_calll (va_runS (As := [.long (x0 * x2), .long x4]) (rest := []) ⟨hx, hb, hml, hown, hg⟩ (m_X5_rounded l G (x0 * x2) x4 I152 L153 _  hv) (va_cwS 2 hg (mm_gS k_76 k_77 k_63 kc_X5_rounded) rfl rfl rfl (by decide +kernel) ⟨Nat.le_of_ble_eq_true rfl, Nat.le_of_ble_eq_true rfl⟩) ⟨mm_blind, fun U hU hW => mm_call hP hK hD hC hU hS hW⟩ rfl rfl hl.1 rfl (lv_room (Nat.le_of_ble_eq_true rfl)) d_X5_share_54 ⟨Nat.zero_le _, Nat.zero_le _⟩) hS (fun q _ h => h) (fun q h => h) (fun r157 u t H locs ht hvm hv hP hz1 hk1 hS => ?_)
          obtain ⟨I155, L156⟩ := u
          dsimp only at hv hP
          rw [ht] at hP
          have hD : mm_DW G I155 L156 := mm_D_any hD
          refine lv_lstore (lv' := [(6, .long r157), (0, .long x0), (2, .long x2), (4, .long x4)]) hx hb d_X5_share_57 hl (by decide) rfl (fun ls hl => ?_)
          refine lv_lload hx hb d_X5_share_59 (lv_at hl 0 rfl) ?_
          refine va_calli (va_runS (As := [.long r157]) (rest := []) ⟨hx, hb, hml, hown, hg⟩ (m_X5_isInt l G r157 I155 L156 _  hv) (va_cwS 1 hg (mm_gS k_75 k_62 k_63 kc_X5_isInt) rfl rfl rfl (by decide +kernel) ⟨Nat.le_of_ble_eq_true rfl, Nat.le_of_ble_eq_true rfl⟩) ⟨mm_blind, fun U hU hW => mm_call hP hK hD hC hU hS hW⟩ rfl rfl hl.1 rfl (lv_room (Nat.le_of_ble_eq_true rfl)) d_X5_share_61 ⟨Nat.zero_le _, Nat.zero_le _⟩) hS (fun q _ h => h) (fun q h => h) (fun r160 u t H locs ht hvm hv hP hz1 hk1 hS => ?_)
          obtain ⟨I158, L159⟩ := u
          dsimp only at hv hP
          rw [ht] at hP
          have hD : mm_DW G I158 L159 := mm_D_any hD
          refine lv_if_eq (tgt := 72) hx hb d_X5_share_64 (by decide) (fun hc => ?_) (fun hc => ?_)
          · have hv := hv.1 hc
            refine lv_ldc2 (v := 1000000000104) hx hb hown (hg _ k_74) d_X5_share_72 ?_
            exact W.lret (v := 1000000000104) hx hb hr (fun t ht hW => ⟨⟨1000000000104, (I158, L159), rfl, hv, mm_mv ht hP⟩, hS.F ht⟩) hS.2.2 d_X5_share_75
          · have hv := hv.2 hc
            refine lv_lload hx hb d_X5_share_67 (lv_at hl 0 rfl) ?_
            refine lv_goto (tgt := 75) hx hb d_X5_share_69 (by decide) ?_
            exact W.lret (v := r157) hx hb hr (fun t ht hW => ⟨⟨r157, (I158, L159), rfl, hv, mm_mv ht hP⟩, hS.F ht⟩) hS.2.2 d_X5_share_75
        · have hv := hv.2 ((lg_cmp_eq _ _).mp hc)
          refine lv_ldc2 (v := 1000000000103) hx hb hown (hg _ k_78) d_X5_share_45 ?_
          exact W.lret (v := 1000000000103) hx hb hr (fun t ht hW => ⟨⟨1000000000103, (I152, L153), rfl, hv, mm_mv ht hP⟩, hS.F ht⟩) hS.2.2 d_X5_share_48
      · have hv := hv.2 hc
        refine lv_lload hx hb d_X5_share_32 (lv_at hl 2 rfl) ?_
        refine va_calll (va_runS (As := [.long x4]) (rest := []) ⟨hx, hb, hml, hown, hg⟩ (m_X5_faultOf l G x4 I152 L153 _  hv) (va_cwS 1 hg (mm_gS k_79 k_80 k_63 kc_X5_faultOf) rfl rfl rfl (by decide +kernel) ⟨Nat.le_of_ble_eq_true rfl, Nat.le_of_ble_eq_true rfl⟩) ⟨mm_blind, fun U hU hW => mm_call hP hK hD hC hU hS hW⟩ rfl rfl hl.1 rfl (lv_room (Nat.le_of_ble_eq_true rfl)) d_X5_share_34 ⟨Nat.zero_le _, Nat.zero_le _⟩) hS (fun q _ h => h) (fun q h => h) (fun r163 u t H locs ht hvm hv hP hz1 hk1 hS => ?_)
        obtain ⟨I161, L162⟩ := u
        dsimp only at hv hP
        rw [ht] at hP
        have hD : mm_DW G I161 L162 := mm_D_any hD
        exact W.lret (v := r163) hx hb hr (fun t ht hW => ⟨⟨r163, (I161, L162), rfl, hv, mm_mv ht hP⟩, hS.F ht⟩) hS.2.2 d_X5_share_37
    · have hv := hv.2 hc
      refine lv_lload_n hx hb d_X5_share_19 rfl (lv_at hl 1 rfl) ?_
      refine va_calll (va_runS (As := [.long x2]) (rest := []) ⟨hx, hb, hml, hown, hg⟩ (m_X5_faultOf l G x2 I149 L150 _  hv) (va_cwS 1 hg (mm_gS k_79 k_80 k_63 kc_X5_faultOf) rfl rfl rfl (by decide +kernel) ⟨Nat.le_of_ble_eq_true rfl, Nat.le_of_ble_eq_true rfl⟩) ⟨mm_blind, fun U hU hW => mm_call hP hK hD hC hU hS hW⟩ rfl rfl hl.1 rfl (lv_room (Nat.le_of_ble_eq_true rfl)) d_X5_share_20 ⟨Nat.zero_le _, Nat.zero_le _⟩) hS (fun q _ h => h) (fun q h => h) (fun r166 u t H locs ht hvm hv hP hz1 hk1 hS => ?_)
      obtain ⟨I164, L165⟩ := u
      dsimp only at hv hP
      rw [ht] at hP
      have hD : mm_DW G I164 L165 := mm_D_any hD
      exact W.lret (v := r166) hx hb hr (fun t ht hW => ⟨⟨r166, (I164, L165), rfl, hv, mm_mv ht hP⟩, hS.F ht⟩) hS.2.2 d_X5_share_23
  · have hv := hv.2 hc
    refine lv_lload_n hx hb d_X5_share_7 rfl (lv_at hl 0 rfl) ?_
    refine va_calll (va_runS (As := [.long x0]) (rest := []) ⟨hx, hb, hml, hown, hg⟩ (m_X5_faultOf l G x0 I146 L147 _  hv) (va_cwS 1 hg (mm_gS k_79 k_80 k_63 kc_X5_faultOf) rfl rfl rfl (by decide +kernel) ⟨Nat.le_of_ble_eq_true rfl, Nat.le_of_ble_eq_true rfl⟩) ⟨mm_blind, fun U hU hW => mm_call hP hK hD hC hU hS hW⟩ rfl rfl hl.1 rfl (lv_room (Nat.le_of_ble_eq_true rfl)) d_X5_share_8 ⟨Nat.zero_le _, Nat.zero_le _⟩) hS (fun q _ h => h) (fun q h => h) (fun r169 u t H locs ht hvm hv hP hz1 hk1 hS => ?_)
    obtain ⟨I167, L168⟩ := u
    dsimp only at hv hP
    rw [ht] at hP
    have hD : mm_DW G I167 L168 := mm_D_any hD
    exact W.lret (v := r169) hx hb hr (fun t ht hW => ⟨⟨r169, (I167, L168), rfl, hv, mm_mv ht hP⟩, hS.F ht⟩) hS.2.2 d_X5_share_11
abbrev vc_X5_share (x0 : Int64) (x2 : Int64) (x4 : Int64) (I : mm_I) (L : mm_L) (Q : Int64 → mm_I → mm_L → Prop) : Prop := vc_X5_share_0 x0 x2 x4 I L Q
set_option maxHeartbeats 4000000 in
set_option maxRecDepth 100000 in
theorem m_X5_share (l : Launch) (G : mm_G) (x0 : Int64) (x2 : Int64) (x4 : Int64) (I : mm_I) (L : mm_L) (Q : Int64 → mm_I → mm_L → Prop)  (hv : vc_X5_share x0 x2 x4 I L Q) : Met l y_X5_share w_X5_share rm_X5_share (mm_pre G [.long x0, .long x2, .long x4] I L) (mm_ql G Q) 0 0 G.2.2.2.1 := by
  refine Met.ofW (cc := c_X5_share) (maxL := 8) (ret := (some .long)) (by decide) rfl ?_
  intro p e s m args below meth c s₁ B hml hw
  obtain ⟨rfl, hP, hK, hD, hC⟩ := hw
  have hts := atoms_spec (ws := w_X5_share) B.pre
  have hown : s.vm.findClass RX5 = some m.cls := findClass_of_methodNamed B.named
  have hl := lv_entry ([.long x0, .long x2, .long x4]) (n := 8) (Nat.le_of_ble_eq_true rfl)
  rw [lg_entry_eq]
  generalize (lg_sl ([.long x0, .long x2, .long x4]) ++ List.replicate (8 - (lg_sl ([.long x0, .long x2, .long x4])).length) Slot.unset).toArray = ls at hl ⊢
  have hl : lv_has ls 8 [(0, .long x0), (2, .long x2), (4, .long x4)] := hl
  exact w_X5_share_0 ⟨B.exec, B.bytes, B.returns, B.notSynchronized, hml, hown, fun w h => hts w (List.mem_cons_of_mem _ h), hK, hC⟩ x0 x2 x4 I L Q  hv hP hD va_S.rf hl
abbrev rm_X5_not : Room := { frames := 1, cells := 0, slots := 0, locals := 21 }
def vc_X5_not_0 (x0 : Int64) (I : mm_I) (L : mm_L) (Q : Int64 → mm_I → mm_L → Prop) : Prop :=
  vc_X5_isInt x0 I L (fun r172 I170 L171 => (¬ r172 = 0 → (¬ x0 = 0 → Q 0 I170 L171) ∧ (x0 = 0 → Q 1 I170 L171)) ∧ (r172 = 0 → vc_X5_faultOf x0 I170 L171 (fun r175 I173 L174 => Q r175 I173 L174)))
set_option maxHeartbeats 4000000 in
set_option maxRecDepth 100000 in
theorem w_X5_not_0 {p : Program} {l : Launch} {e : Env} {s : State} {m : MethodId} {args : Array Value} {below : List Frame} {meth : Method} {c : Code} {G : mm_G} (hcx : mm_cx c_X5_not (some .long) 2 RX5 G p s m args meth c) (x0 : Int64) (I : mm_I) (L : mm_L) (Q : Int64 → mm_I → mm_L → Prop)  (hv : vc_X5_not_0 x0 I L Q) {H : Heap} {locs : List Loc} (hP : mm_PW G I L H) (hD : mm_DW G I L) (hS : va_S G.2.2.2.1 s.heap H locs) {ls : Array Slot} (hl : lv_has ls 2 [(0, .long x0)]) : W p l e (headSpec w_X5_not rm_X5_not).room s m args below meth c H locs 0 0 (MQ below (mm_ql G Q) args s 0 0 G.2.2.2.1) (F0 m 0 ls []) := by
  obtain ⟨hx, hb, hr, hlocks, hml, hown, hg, hK, hC⟩ := id hcx
  unfold vc_X5_not_0 at hv
  refine lv_lload_n hx hb d_X5_not_0 rfl (lv_at hl 0 rfl) ?_
  refine va_calli (va_runS (As := [.long x0]) (rest := []) ⟨hx, hb, hml, hown, hg⟩ (m_X5_isInt l G x0 I L _  hv) (va_cwS 1 hg (mm_gS k_75 k_62 k_63 kc_X5_isInt) rfl rfl rfl (by decide +kernel) ⟨Nat.le_of_ble_eq_true rfl, Nat.le_of_ble_eq_true rfl⟩) ⟨mm_blind, fun U hU hW => mm_call hP hK hD hC hU hS hW⟩ rfl rfl hl.1 rfl (lv_room (Nat.le_of_ble_eq_true rfl)) d_X5_not_1 ⟨Nat.zero_le _, Nat.zero_le _⟩) hS (fun q _ h => h) (fun q h => h) (fun r172 u t H locs ht hvm hv hP hz1 hk1 hS => ?_)
  obtain ⟨I170, L171⟩ := u
  dsimp only at hv hP
  rw [ht] at hP
  have hD : mm_DW G I170 L171 := mm_D_any hD
  refine lv_if_ne (tgt := 12) hx hb d_X5_not_4 (by decide) (fun hc => ?_) (fun hc => ?_)
  · have hv := hv.1 hc
    refine lv_lload_n hx hb d_X5_not_12 rfl (lv_at hl 0 rfl) ?_
    refine lv_lconst (v := 0) hx hb d_X5_not_13 (by decide) ?_
    refine W.lcmp hx hb d_X5_not_14 ?_
    refine lv_if_ne (tgt := 22) hx hb d_X5_not_15 (by decide) (fun hc => ?_) (fun hc => ?_)
    · have hv := hv.1 (fun q => hc ((lg_cmp_eq _ _).mpr q))
      refine lv_lconst (v := 0) hx hb d_X5_not_22 (by decide) ?_
      exact W.lret (v := 0) hx hb hr (fun t ht hW => ⟨⟨0, (I170, L171), rfl, hv, mm_mv ht hP⟩, hS.F ht⟩) hS.2.2 d_X5_not_23
    · have hv := hv.2 ((lg_cmp_eq _ _).mp hc)
      refine lv_lconst (v := 1) hx hb d_X5_not_18 (by decide) ?_
      refine lv_goto (tgt := 23) hx hb d_X5_not_19 (by decide) ?_
      exact W.lret (v := 1) hx hb hr (fun t ht hW => ⟨⟨1, (I170, L171), rfl, hv, mm_mv ht hP⟩, hS.F ht⟩) hS.2.2 d_X5_not_23
  · have hv := hv.2 hc
    refine lv_lload_n hx hb d_X5_not_7 rfl (lv_at hl 0 rfl) ?_
    refine va_calll (va_runS (As := [.long x0]) (rest := []) ⟨hx, hb, hml, hown, hg⟩ (m_X5_faultOf l G x0 I170 L171 _  hv) (va_cwS 1 hg (mm_gS k_79 k_80 k_63 kc_X5_faultOf) rfl rfl rfl (by decide +kernel) ⟨Nat.le_of_ble_eq_true rfl, Nat.le_of_ble_eq_true rfl⟩) ⟨mm_blind, fun U hU hW => mm_call hP hK hD hC hU hS hW⟩ rfl rfl hl.1 rfl (lv_room (Nat.le_of_ble_eq_true rfl)) d_X5_not_8 ⟨Nat.zero_le _, Nat.zero_le _⟩) hS (fun q _ h => h) (fun q h => h) (fun r175 u t H locs ht hvm hv hP hz1 hk1 hS => ?_)
    obtain ⟨I173, L174⟩ := u
    dsimp only at hv hP
    rw [ht] at hP
    have hD : mm_DW G I173 L174 := mm_D_any hD
    exact W.lret (v := r175) hx hb hr (fun t ht hW => ⟨⟨r175, (I173, L174), rfl, hv, mm_mv ht hP⟩, hS.F ht⟩) hS.2.2 d_X5_not_11
abbrev vc_X5_not (x0 : Int64) (I : mm_I) (L : mm_L) (Q : Int64 → mm_I → mm_L → Prop) : Prop := vc_X5_not_0 x0 I L Q
set_option maxHeartbeats 4000000 in
set_option maxRecDepth 100000 in
theorem m_X5_not (l : Launch) (G : mm_G) (x0 : Int64) (I : mm_I) (L : mm_L) (Q : Int64 → mm_I → mm_L → Prop)  (hv : vc_X5_not x0 I L Q) : Met l y_X5_not w_X5_not rm_X5_not (mm_pre G [.long x0] I L) (mm_ql G Q) 0 0 G.2.2.2.1 := by
  refine Met.ofW (cc := c_X5_not) (maxL := 2) (ret := (some .long)) (by decide) rfl ?_
  intro p e s m args below meth c s₁ B hml hw
  obtain ⟨rfl, hP, hK, hD, hC⟩ := hw
  have hts := atoms_spec (ws := w_X5_not) B.pre
  have hown : s.vm.findClass RX5 = some m.cls := findClass_of_methodNamed B.named
  have hl := lv_entry ([.long x0]) (n := 2) (Nat.le_of_ble_eq_true rfl)
  rw [lg_entry_eq]
  generalize (lg_sl ([.long x0]) ++ List.replicate (2 - (lg_sl ([.long x0])).length) Slot.unset).toArray = ls at hl ⊢
  have hl : lv_has ls 2 [(0, .long x0)] := hl
  exact w_X5_not_0 ⟨B.exec, B.bytes, B.returns, B.notSynchronized, hml, hown, fun w h => hts w (List.mem_cons_of_mem _ h), hK, hC⟩ x0 I L Q  hv hP hD va_S.rf hl
abbrev rm_X5_truthOf : Room := { frames := 1, cells := 0, slots := 0, locals := 21 }
def vc_X5_truthOf_0 (x0 : Int64) (I : mm_I) (L : mm_L) (Q : Int64 → mm_I → mm_L → Prop) : Prop :=
  vc_X5_isInt x0 I L (fun r178 I176 L177 => (¬ r178 = 0 → (x0 = 0 → Q 0 I176 L177) ∧ (¬ x0 = 0 → Q 1 I176 L177)) ∧ (r178 = 0 → vc_X5_faultOf x0 I176 L177 (fun r181 I179 L180 => Q r181 I179 L180)))
set_option maxHeartbeats 4000000 in
set_option maxRecDepth 100000 in
theorem w_X5_truthOf_0 {p : Program} {l : Launch} {e : Env} {s : State} {m : MethodId} {args : Array Value} {below : List Frame} {meth : Method} {c : Code} {G : mm_G} (hcx : mm_cx c_X5_truthOf (some .long) 2 RX5 G p s m args meth c) (x0 : Int64) (I : mm_I) (L : mm_L) (Q : Int64 → mm_I → mm_L → Prop)  (hv : vc_X5_truthOf_0 x0 I L Q) {H : Heap} {locs : List Loc} (hP : mm_PW G I L H) (hD : mm_DW G I L) (hS : va_S G.2.2.2.1 s.heap H locs) {ls : Array Slot} (hl : lv_has ls 2 [(0, .long x0)]) : W p l e (headSpec w_X5_truthOf rm_X5_truthOf).room s m args below meth c H locs 0 0 (MQ below (mm_ql G Q) args s 0 0 G.2.2.2.1) (F0 m 0 ls []) := by
  obtain ⟨hx, hb, hr, hlocks, hml, hown, hg, hK, hC⟩ := id hcx
  unfold vc_X5_truthOf_0 at hv
  refine lv_lload_n hx hb d_X5_truthOf_0 rfl (lv_at hl 0 rfl) ?_
  refine va_calli (va_runS (As := [.long x0]) (rest := []) ⟨hx, hb, hml, hown, hg⟩ (m_X5_isInt l G x0 I L _  hv) (va_cwS 1 hg (mm_gS k_75 k_62 k_63 kc_X5_isInt) rfl rfl rfl (by decide +kernel) ⟨Nat.le_of_ble_eq_true rfl, Nat.le_of_ble_eq_true rfl⟩) ⟨mm_blind, fun U hU hW => mm_call hP hK hD hC hU hS hW⟩ rfl rfl hl.1 rfl (lv_room (Nat.le_of_ble_eq_true rfl)) d_X5_truthOf_1 ⟨Nat.zero_le _, Nat.zero_le _⟩) hS (fun q _ h => h) (fun q h => h) (fun r178 u t H locs ht hvm hv hP hz1 hk1 hS => ?_)
  obtain ⟨I176, L177⟩ := u
  dsimp only at hv hP
  rw [ht] at hP
  have hD : mm_DW G I176 L177 := mm_D_any hD
  refine lv_if_ne (tgt := 12) hx hb d_X5_truthOf_4 (by decide) (fun hc => ?_) (fun hc => ?_)
  · have hv := hv.1 hc
    refine lv_lload_n hx hb d_X5_truthOf_12 rfl (lv_at hl 0 rfl) ?_
    refine lv_lconst (v := 0) hx hb d_X5_truthOf_13 (by decide) ?_
    refine W.lcmp hx hb d_X5_truthOf_14 ?_
    refine lv_if_eq (tgt := 22) hx hb d_X5_truthOf_15 (by decide) (fun hc => ?_) (fun hc => ?_)
    · have hv := hv.1 ((lg_cmp_eq _ _).mp hc)
      refine lv_lconst (v := 0) hx hb d_X5_truthOf_22 (by decide) ?_
      exact W.lret (v := 0) hx hb hr (fun t ht hW => ⟨⟨0, (I176, L177), rfl, hv, mm_mv ht hP⟩, hS.F ht⟩) hS.2.2 d_X5_truthOf_23
    · have hv := hv.2 (fun q => hc ((lg_cmp_eq _ _).mpr q))
      refine lv_lconst (v := 1) hx hb d_X5_truthOf_18 (by decide) ?_
      refine lv_goto (tgt := 23) hx hb d_X5_truthOf_19 (by decide) ?_
      exact W.lret (v := 1) hx hb hr (fun t ht hW => ⟨⟨1, (I176, L177), rfl, hv, mm_mv ht hP⟩, hS.F ht⟩) hS.2.2 d_X5_truthOf_23
  · have hv := hv.2 hc
    refine lv_lload_n hx hb d_X5_truthOf_7 rfl (lv_at hl 0 rfl) ?_
    refine va_calll (va_runS (As := [.long x0]) (rest := []) ⟨hx, hb, hml, hown, hg⟩ (m_X5_faultOf l G x0 I176 L177 _  hv) (va_cwS 1 hg (mm_gS k_79 k_80 k_63 kc_X5_faultOf) rfl rfl rfl (by decide +kernel) ⟨Nat.le_of_ble_eq_true rfl, Nat.le_of_ble_eq_true rfl⟩) ⟨mm_blind, fun U hU hW => mm_call hP hK hD hC hU hS hW⟩ rfl rfl hl.1 rfl (lv_room (Nat.le_of_ble_eq_true rfl)) d_X5_truthOf_8 ⟨Nat.zero_le _, Nat.zero_le _⟩) hS (fun q _ h => h) (fun q h => h) (fun r181 u t H locs ht hvm hv hP hz1 hk1 hS => ?_)
    obtain ⟨I179, L180⟩ := u
    dsimp only at hv hP
    rw [ht] at hP
    have hD : mm_DW G I179 L180 := mm_D_any hD
    exact W.lret (v := r181) hx hb hr (fun t ht hW => ⟨⟨r181, (I179, L180), rfl, hv, mm_mv ht hP⟩, hS.F ht⟩) hS.2.2 d_X5_truthOf_11
abbrev vc_X5_truthOf (x0 : Int64) (I : mm_I) (L : mm_L) (Q : Int64 → mm_I → mm_L → Prop) : Prop := vc_X5_truthOf_0 x0 I L Q
set_option maxHeartbeats 4000000 in
set_option maxRecDepth 100000 in
theorem m_X5_truthOf (l : Launch) (G : mm_G) (x0 : Int64) (I : mm_I) (L : mm_L) (Q : Int64 → mm_I → mm_L → Prop)  (hv : vc_X5_truthOf x0 I L Q) : Met l y_X5_truthOf w_X5_truthOf rm_X5_truthOf (mm_pre G [.long x0] I L) (mm_ql G Q) 0 0 G.2.2.2.1 := by
  refine Met.ofW (cc := c_X5_truthOf) (maxL := 2) (ret := (some .long)) (by decide) rfl ?_
  intro p e s m args below meth c s₁ B hml hw
  obtain ⟨rfl, hP, hK, hD, hC⟩ := hw
  have hts := atoms_spec (ws := w_X5_truthOf) B.pre
  have hown : s.vm.findClass RX5 = some m.cls := findClass_of_methodNamed B.named
  have hl := lv_entry ([.long x0]) (n := 2) (Nat.le_of_ble_eq_true rfl)
  rw [lg_entry_eq]
  generalize (lg_sl ([.long x0]) ++ List.replicate (2 - (lg_sl ([.long x0])).length) Slot.unset).toArray = ls at hl ⊢
  have hl : lv_has ls 2 [(0, .long x0)] := hl
  exact w_X5_truthOf_0 ⟨B.exec, B.bytes, B.returns, B.notSynchronized, hml, hown, fun w h => hts w (List.mem_cons_of_mem _ h), hK, hC⟩ x0 I L Q  hv hP hD va_S.rf hl
abbrev rm_X5_both : Room := { frames := 2, cells := 0, slots := 0, locals := 42 }
def vc_X5_both_0 (x0 : Int64) (x2 : Int64) (I : mm_I) (L : mm_L) (Q : Int64 → mm_I → mm_L → Prop) : Prop :=
  vc_X5_isInt x0 I L (fun r184 I182 L183 => (¬ r184 = 0 → (¬ x0 = 0 → vc_X5_truthOf x2 I182 L183 (fun r187 I185 L186 => Q r187 I185 L186)) ∧ (x0 = 0 → Q 0 I182 L183)) ∧ (r184 = 0 → vc_X5_faultOf x0 I182 L183 (fun r190 I188 L189 => Q r190 I188 L189)))
set_option maxHeartbeats 4000000 in
set_option maxRecDepth 100000 in
theorem w_X5_both_0 {p : Program} {l : Launch} {e : Env} {s : State} {m : MethodId} {args : Array Value} {below : List Frame} {meth : Method} {c : Code} {G : mm_G} (hcx : mm_cx c_X5_both (some .long) 4 RX5 G p s m args meth c) (x0 : Int64) (x2 : Int64) (I : mm_I) (L : mm_L) (Q : Int64 → mm_I → mm_L → Prop)  (hv : vc_X5_both_0 x0 x2 I L Q) {H : Heap} {locs : List Loc} (hP : mm_PW G I L H) (hD : mm_DW G I L) (hS : va_S G.2.2.2.1 s.heap H locs) {ls : Array Slot} (hl : lv_has ls 4 [(0, .long x0), (2, .long x2)]) : W p l e (headSpec w_X5_both rm_X5_both).room s m args below meth c H locs 0 0 (MQ below (mm_ql G Q) args s 0 0 G.2.2.2.1) (F0 m 0 ls []) := by
  obtain ⟨hx, hb, hr, hlocks, hml, hown, hg, hK, hC⟩ := id hcx
  unfold vc_X5_both_0 at hv
  refine lv_lload_n hx hb d_X5_both_0 rfl (lv_at hl 0 rfl) ?_
  refine va_calli (va_runS (As := [.long x0]) (rest := []) ⟨hx, hb, hml, hown, hg⟩ (m_X5_isInt l G x0 I L _  hv) (va_cwS 1 hg (mm_gS k_75 k_62 k_63 kc_X5_isInt) rfl rfl rfl (by decide +kernel) ⟨Nat.le_of_ble_eq_true rfl, Nat.le_of_ble_eq_true rfl⟩) ⟨mm_blind, fun U hU hW => mm_call hP hK hD hC hU hS hW⟩ rfl rfl hl.1 rfl (lv_room (Nat.le_of_ble_eq_true rfl)) d_X5_both_1 ⟨Nat.zero_le _, Nat.zero_le _⟩) hS (fun q _ h => h) (fun q h => h) (fun r184 u t H locs ht hvm hv hP hz1 hk1 hS => ?_)
  obtain ⟨I182, L183⟩ := u
  dsimp only at hv hP
  rw [ht] at hP
  have hD : mm_DW G I182 L183 := mm_D_any hD
  refine lv_if_ne (tgt := 12) hx hb d_X5_both_4 (by decide) (fun hc => ?_) (fun hc => ?_)
  · have hv := hv.1 hc
    refine lv_lload_n hx hb d_X5_both_12 rfl (lv_at hl 0 rfl) ?_
    refine lv_lconst (v := 0) hx hb d_X5_both_13 (by decide) ?_
    refine W.lcmp hx hb d_X5_both_14 ?_
    refine lv_if_ne (tgt := 22) hx hb d_X5_both_15 (by decide) (fun hc => ?_) (fun hc => ?_)
    · have hv := hv.1 (fun q => hc ((lg_cmp_eq _ _).mpr q))
      refine lv_lload_n hx hb d_X5_both_22 rfl (lv_at hl 1 rfl) ?_
      refine va_calll (va_runS (As := [.long x2]) (rest := []) ⟨hx, hb, hml, hown, hg⟩ (m_X5_truthOf l G x2 I182 L183 _  hv) (va_cwS 1 hg (mm_gS k_81 k_82 k_63 kc_X5_truthOf) rfl rfl rfl (by decide +kernel) ⟨Nat.le_of_ble_eq_true rfl, Nat.le_of_ble_eq_true rfl⟩) ⟨mm_blind, fun U hU hW => mm_call hP hK hD hC hU hS hW⟩ rfl rfl hl.1 rfl (lv_room (Nat.le_of_ble_eq_true rfl)) d_X5_both_23 ⟨Nat.zero_le _, Nat.zero_le _⟩) hS (fun q _ h => h) (fun q h => h) (fun r187 u t H locs ht hvm hv hP hz1 hk1 hS => ?_)
      obtain ⟨I185, L186⟩ := u
      dsimp only at hv hP
      rw [ht] at hP
      have hD : mm_DW G I185 L186 := mm_D_any hD
      exact W.lret (v := r187) hx hb hr (fun t ht hW => ⟨⟨r187, (I185, L186), rfl, hv, mm_mv ht hP⟩, hS.F ht⟩) hS.2.2 d_X5_both_26
    · have hv := hv.2 ((lg_cmp_eq _ _).mp hc)
      refine lv_lconst (v := 0) hx hb d_X5_both_18 (by decide) ?_
      refine lv_goto (tgt := 26) hx hb d_X5_both_19 (by decide) ?_
      exact W.lret (v := 0) hx hb hr (fun t ht hW => ⟨⟨0, (I182, L183), rfl, hv, mm_mv ht hP⟩, hS.F ht⟩) hS.2.2 d_X5_both_26
  · have hv := hv.2 hc
    refine lv_lload_n hx hb d_X5_both_7 rfl (lv_at hl 0 rfl) ?_
    refine va_calll (va_runS (As := [.long x0]) (rest := []) ⟨hx, hb, hml, hown, hg⟩ (m_X5_faultOf l G x0 I182 L183 _  hv) (va_cwS 1 hg (mm_gS k_79 k_80 k_63 kc_X5_faultOf) rfl rfl rfl (by decide +kernel) ⟨Nat.le_of_ble_eq_true rfl, Nat.le_of_ble_eq_true rfl⟩) ⟨mm_blind, fun U hU hW => mm_call hP hK hD hC hU hS hW⟩ rfl rfl hl.1 rfl (lv_room (Nat.le_of_ble_eq_true rfl)) d_X5_both_8 ⟨Nat.zero_le _, Nat.zero_le _⟩) hS (fun q _ h => h) (fun q h => h) (fun r190 u t H locs ht hvm hv hP hz1 hk1 hS => ?_)
    obtain ⟨I188, L189⟩ := u
    dsimp only at hv hP
    rw [ht] at hP
    have hD : mm_DW G I188 L189 := mm_D_any hD
    exact W.lret (v := r190) hx hb hr (fun t ht hW => ⟨⟨r190, (I188, L189), rfl, hv, mm_mv ht hP⟩, hS.F ht⟩) hS.2.2 d_X5_both_11
abbrev vc_X5_both (x0 : Int64) (x2 : Int64) (I : mm_I) (L : mm_L) (Q : Int64 → mm_I → mm_L → Prop) : Prop := vc_X5_both_0 x0 x2 I L Q
set_option maxHeartbeats 4000000 in
set_option maxRecDepth 100000 in
theorem m_X5_both (l : Launch) (G : mm_G) (x0 : Int64) (x2 : Int64) (I : mm_I) (L : mm_L) (Q : Int64 → mm_I → mm_L → Prop)  (hv : vc_X5_both x0 x2 I L Q) : Met l y_X5_both w_X5_both rm_X5_both (mm_pre G [.long x0, .long x2] I L) (mm_ql G Q) 0 0 G.2.2.2.1 := by
  refine Met.ofW (cc := c_X5_both) (maxL := 4) (ret := (some .long)) (by decide) rfl ?_
  intro p e s m args below meth c s₁ B hml hw
  obtain ⟨rfl, hP, hK, hD, hC⟩ := hw
  have hts := atoms_spec (ws := w_X5_both) B.pre
  have hown : s.vm.findClass RX5 = some m.cls := findClass_of_methodNamed B.named
  have hl := lv_entry ([.long x0, .long x2]) (n := 4) (Nat.le_of_ble_eq_true rfl)
  rw [lg_entry_eq]
  generalize (lg_sl ([.long x0, .long x2]) ++ List.replicate (4 - (lg_sl ([.long x0, .long x2])).length) Slot.unset).toArray = ls at hl ⊢
  have hl : lv_has ls 4 [(0, .long x0), (2, .long x2)] := hl
  exact w_X5_both_0 ⟨B.exec, B.bytes, B.returns, B.notSynchronized, hml, hown, fun w h => hts w (List.mem_cons_of_mem _ h), hK, hC⟩ x0 x2 I L Q  hv hP hD va_S.rf hl
abbrev rm_X5_any : Room := { frames := 2, cells := 0, slots := 0, locals := 42 }
def vc_X5_any_0 (x0 : Int64) (x2 : Int64) (I : mm_I) (L : mm_L) (Q : Int64 → mm_I → mm_L → Prop) : Prop :=
  vc_X5_isInt x0 I L (fun r193 I191 L192 => (¬ r193 = 0 → (x0 = 0 → vc_X5_truthOf x2 I191 L192 (fun r196 I194 L195 => Q r196 I194 L195)) ∧ (¬ x0 = 0 → Q 1 I191 L192)) ∧ (r193 = 0 → vc_X5_faultOf x0 I191 L192 (fun r199 I197 L198 => Q r199 I197 L198)))
set_option maxHeartbeats 4000000 in
set_option maxRecDepth 100000 in
theorem w_X5_any_0 {p : Program} {l : Launch} {e : Env} {s : State} {m : MethodId} {args : Array Value} {below : List Frame} {meth : Method} {c : Code} {G : mm_G} (hcx : mm_cx c_X5_any (some .long) 4 RX5 G p s m args meth c) (x0 : Int64) (x2 : Int64) (I : mm_I) (L : mm_L) (Q : Int64 → mm_I → mm_L → Prop)  (hv : vc_X5_any_0 x0 x2 I L Q) {H : Heap} {locs : List Loc} (hP : mm_PW G I L H) (hD : mm_DW G I L) (hS : va_S G.2.2.2.1 s.heap H locs) {ls : Array Slot} (hl : lv_has ls 4 [(0, .long x0), (2, .long x2)]) : W p l e (headSpec w_X5_any rm_X5_any).room s m args below meth c H locs 0 0 (MQ below (mm_ql G Q) args s 0 0 G.2.2.2.1) (F0 m 0 ls []) := by
  obtain ⟨hx, hb, hr, hlocks, hml, hown, hg, hK, hC⟩ := id hcx
  unfold vc_X5_any_0 at hv
  refine lv_lload_n hx hb d_X5_any_0 rfl (lv_at hl 0 rfl) ?_
  refine va_calli (va_runS (As := [.long x0]) (rest := []) ⟨hx, hb, hml, hown, hg⟩ (m_X5_isInt l G x0 I L _  hv) (va_cwS 1 hg (mm_gS k_75 k_62 k_63 kc_X5_isInt) rfl rfl rfl (by decide +kernel) ⟨Nat.le_of_ble_eq_true rfl, Nat.le_of_ble_eq_true rfl⟩) ⟨mm_blind, fun U hU hW => mm_call hP hK hD hC hU hS hW⟩ rfl rfl hl.1 rfl (lv_room (Nat.le_of_ble_eq_true rfl)) d_X5_any_1 ⟨Nat.zero_le _, Nat.zero_le _⟩) hS (fun q _ h => h) (fun q h => h) (fun r193 u t H locs ht hvm hv hP hz1 hk1 hS => ?_)
  obtain ⟨I191, L192⟩ := u
  dsimp only at hv hP
  rw [ht] at hP
  have hD : mm_DW G I191 L192 := mm_D_any hD
  refine lv_if_ne (tgt := 12) hx hb d_X5_any_4 (by decide) (fun hc => ?_) (fun hc => ?_)
  · have hv := hv.1 hc
    refine lv_lload_n hx hb d_X5_any_12 rfl (lv_at hl 0 rfl) ?_
    refine lv_lconst (v := 0) hx hb d_X5_any_13 (by decide) ?_
    refine W.lcmp hx hb d_X5_any_14 ?_
    refine lv_if_eq (tgt := 22) hx hb d_X5_any_15 (by decide) (fun hc => ?_) (fun hc => ?_)
    · have hv := hv.1 ((lg_cmp_eq _ _).mp hc)
      refine lv_lload_n hx hb d_X5_any_22 rfl (lv_at hl 1 rfl) ?_
      refine va_calll (va_runS (As := [.long x2]) (rest := []) ⟨hx, hb, hml, hown, hg⟩ (m_X5_truthOf l G x2 I191 L192 _  hv) (va_cwS 1 hg (mm_gS k_81 k_82 k_63 kc_X5_truthOf) rfl rfl rfl (by decide +kernel) ⟨Nat.le_of_ble_eq_true rfl, Nat.le_of_ble_eq_true rfl⟩) ⟨mm_blind, fun U hU hW => mm_call hP hK hD hC hU hS hW⟩ rfl rfl hl.1 rfl (lv_room (Nat.le_of_ble_eq_true rfl)) d_X5_any_23 ⟨Nat.zero_le _, Nat.zero_le _⟩) hS (fun q _ h => h) (fun q h => h) (fun r196 u t H locs ht hvm hv hP hz1 hk1 hS => ?_)
      obtain ⟨I194, L195⟩ := u
      dsimp only at hv hP
      rw [ht] at hP
      have hD : mm_DW G I194 L195 := mm_D_any hD
      exact W.lret (v := r196) hx hb hr (fun t ht hW => ⟨⟨r196, (I194, L195), rfl, hv, mm_mv ht hP⟩, hS.F ht⟩) hS.2.2 d_X5_any_26
    · have hv := hv.2 (fun q => hc ((lg_cmp_eq _ _).mpr q))
      refine lv_lconst (v := 1) hx hb d_X5_any_18 (by decide) ?_
      refine lv_goto (tgt := 26) hx hb d_X5_any_19 (by decide) ?_
      exact W.lret (v := 1) hx hb hr (fun t ht hW => ⟨⟨1, (I191, L192), rfl, hv, mm_mv ht hP⟩, hS.F ht⟩) hS.2.2 d_X5_any_26
  · have hv := hv.2 hc
    refine lv_lload_n hx hb d_X5_any_7 rfl (lv_at hl 0 rfl) ?_
    refine va_calll (va_runS (As := [.long x0]) (rest := []) ⟨hx, hb, hml, hown, hg⟩ (m_X5_faultOf l G x0 I191 L192 _  hv) (va_cwS 1 hg (mm_gS k_79 k_80 k_63 kc_X5_faultOf) rfl rfl rfl (by decide +kernel) ⟨Nat.le_of_ble_eq_true rfl, Nat.le_of_ble_eq_true rfl⟩) ⟨mm_blind, fun U hU hW => mm_call hP hK hD hC hU hS hW⟩ rfl rfl hl.1 rfl (lv_room (Nat.le_of_ble_eq_true rfl)) d_X5_any_8 ⟨Nat.zero_le _, Nat.zero_le _⟩) hS (fun q _ h => h) (fun q h => h) (fun r199 u t H locs ht hvm hv hP hz1 hk1 hS => ?_)
    obtain ⟨I197, L198⟩ := u
    dsimp only at hv hP
    rw [ht] at hP
    have hD : mm_DW G I197 L198 := mm_D_any hD
    exact W.lret (v := r199) hx hb hr (fun t ht hW => ⟨⟨r199, (I197, L198), rfl, hv, mm_mv ht hP⟩, hS.F ht⟩) hS.2.2 d_X5_any_11
abbrev vc_X5_any (x0 : Int64) (x2 : Int64) (I : mm_I) (L : mm_L) (Q : Int64 → mm_I → mm_L → Prop) : Prop := vc_X5_any_0 x0 x2 I L Q
set_option maxHeartbeats 4000000 in
set_option maxRecDepth 100000 in
theorem m_X5_any (l : Launch) (G : mm_G) (x0 : Int64) (x2 : Int64) (I : mm_I) (L : mm_L) (Q : Int64 → mm_I → mm_L → Prop)  (hv : vc_X5_any x0 x2 I L Q) : Met l y_X5_any w_X5_any rm_X5_any (mm_pre G [.long x0, .long x2] I L) (mm_ql G Q) 0 0 G.2.2.2.1 := by
  refine Met.ofW (cc := c_X5_any) (maxL := 4) (ret := (some .long)) (by decide) rfl ?_
  intro p e s m args below meth c s₁ B hml hw
  obtain ⟨rfl, hP, hK, hD, hC⟩ := hw
  have hts := atoms_spec (ws := w_X5_any) B.pre
  have hown : s.vm.findClass RX5 = some m.cls := findClass_of_methodNamed B.named
  have hl := lv_entry ([.long x0, .long x2]) (n := 4) (Nat.le_of_ble_eq_true rfl)
  rw [lg_entry_eq]
  generalize (lg_sl ([.long x0, .long x2]) ++ List.replicate (4 - (lg_sl ([.long x0, .long x2])).length) Slot.unset).toArray = ls at hl ⊢
  have hl : lv_has ls 4 [(0, .long x0), (2, .long x2)] := hl
  exact w_X5_any_0 ⟨B.exec, B.bytes, B.returns, B.notSynchronized, hml, hown, fun w h => hts w (List.mem_cons_of_mem _ h), hK, hC⟩ x0 x2 I L Q  hv hP hD va_S.rf hl
abbrev rm_X5_choice : Room := { frames := 1, cells := 0, slots := 0, locals := 21 }
def vc_X5_choice_0 (x0 : Int64) (x2 : Int64) (x4 : Int64) (I : mm_I) (L : mm_L) (Q : Int64 → mm_I → mm_L → Prop) : Prop :=
  vc_X5_isInt x0 I L (fun r202 I200 L201 => (¬ r202 = 0 → (x0 = 0 → Q x4 I200 L201) ∧ (¬ x0 = 0 → Q x2 I200 L201)) ∧ (r202 = 0 → vc_X5_faultOf x0 I200 L201 (fun r205 I203 L204 => Q r205 I203 L204)))
set_option maxHeartbeats 4000000 in
set_option maxRecDepth 100000 in
theorem w_X5_choice_0 {p : Program} {l : Launch} {e : Env} {s : State} {m : MethodId} {args : Array Value} {below : List Frame} {meth : Method} {c : Code} {G : mm_G} (hcx : mm_cx c_X5_choice (some .long) 6 RX5 G p s m args meth c) (x0 : Int64) (x2 : Int64) (x4 : Int64) (I : mm_I) (L : mm_L) (Q : Int64 → mm_I → mm_L → Prop)  (hv : vc_X5_choice_0 x0 x2 x4 I L Q) {H : Heap} {locs : List Loc} (hP : mm_PW G I L H) (hD : mm_DW G I L) (hS : va_S G.2.2.2.1 s.heap H locs) {ls : Array Slot} (hl : lv_has ls 6 [(0, .long x0), (2, .long x2), (4, .long x4)]) : W p l e (headSpec w_X5_choice rm_X5_choice).room s m args below meth c H locs 0 0 (MQ below (mm_ql G Q) args s 0 0 G.2.2.2.1) (F0 m 0 ls []) := by
  obtain ⟨hx, hb, hr, hlocks, hml, hown, hg, hK, hC⟩ := id hcx
  unfold vc_X5_choice_0 at hv
  refine lv_lload_n hx hb d_X5_choice_0 rfl (lv_at hl 0 rfl) ?_
  refine va_calli (va_runS (As := [.long x0]) (rest := []) ⟨hx, hb, hml, hown, hg⟩ (m_X5_isInt l G x0 I L _  hv) (va_cwS 1 hg (mm_gS k_75 k_62 k_63 kc_X5_isInt) rfl rfl rfl (by decide +kernel) ⟨Nat.le_of_ble_eq_true rfl, Nat.le_of_ble_eq_true rfl⟩) ⟨mm_blind, fun U hU hW => mm_call hP hK hD hC hU hS hW⟩ rfl rfl hl.1 rfl (lv_room (Nat.le_of_ble_eq_true rfl)) d_X5_choice_1 ⟨Nat.zero_le _, Nat.zero_le _⟩) hS (fun q _ h => h) (fun q h => h) (fun r202 u t H locs ht hvm hv hP hz1 hk1 hS => ?_)
  obtain ⟨I200, L201⟩ := u
  dsimp only at hv hP
  rw [ht] at hP
  have hD : mm_DW G I200 L201 := mm_D_any hD
  refine lv_if_ne (tgt := 12) hx hb d_X5_choice_4 (by decide) (fun hc => ?_) (fun hc => ?_)
  · have hv := hv.1 hc
    refine lv_lload_n hx hb d_X5_choice_12 rfl (lv_at hl 0 rfl) ?_
    refine lv_lconst (v := 0) hx hb d_X5_choice_13 (by decide) ?_
    refine W.lcmp hx hb d_X5_choice_14 ?_
    refine lv_if_eq (tgt := 22) hx hb d_X5_choice_15 (by decide) (fun hc => ?_) (fun hc => ?_)
    · have hv := hv.1 ((lg_cmp_eq _ _).mp hc)
      refine lv_lload hx hb d_X5_choice_22 (lv_at hl 2 rfl) ?_
      exact W.lret (v := x4) hx hb hr (fun t ht hW => ⟨⟨x4, (I200, L201), rfl, hv, mm_mv ht hP⟩, hS.F ht⟩) hS.2.2 d_X5_choice_24
    · have hv := hv.2 (fun q => hc ((lg_cmp_eq _ _).mpr q))
      refine lv_lload_n hx hb d_X5_choice_18 rfl (lv_at hl 1 rfl) ?_
      refine lv_goto (tgt := 24) hx hb d_X5_choice_19 (by decide) ?_
      exact W.lret (v := x2) hx hb hr (fun t ht hW => ⟨⟨x2, (I200, L201), rfl, hv, mm_mv ht hP⟩, hS.F ht⟩) hS.2.2 d_X5_choice_24
  · have hv := hv.2 hc
    refine lv_lload_n hx hb d_X5_choice_7 rfl (lv_at hl 0 rfl) ?_
    refine va_calll (va_runS (As := [.long x0]) (rest := []) ⟨hx, hb, hml, hown, hg⟩ (m_X5_faultOf l G x0 I200 L201 _  hv) (va_cwS 1 hg (mm_gS k_79 k_80 k_63 kc_X5_faultOf) rfl rfl rfl (by decide +kernel) ⟨Nat.le_of_ble_eq_true rfl, Nat.le_of_ble_eq_true rfl⟩) ⟨mm_blind, fun U hU hW => mm_call hP hK hD hC hU hS hW⟩ rfl rfl hl.1 rfl (lv_room (Nat.le_of_ble_eq_true rfl)) d_X5_choice_8 ⟨Nat.zero_le _, Nat.zero_le _⟩) hS (fun q _ h => h) (fun q h => h) (fun r205 u t H locs ht hvm hv hP hz1 hk1 hS => ?_)
    obtain ⟨I203, L204⟩ := u
    dsimp only at hv hP
    rw [ht] at hP
    have hD : mm_DW G I203 L204 := mm_D_any hD
    exact W.lret (v := r205) hx hb hr (fun t ht hW => ⟨⟨r205, (I203, L204), rfl, hv, mm_mv ht hP⟩, hS.F ht⟩) hS.2.2 d_X5_choice_11
abbrev vc_X5_choice (x0 : Int64) (x2 : Int64) (x4 : Int64) (I : mm_I) (L : mm_L) (Q : Int64 → mm_I → mm_L → Prop) : Prop := vc_X5_choice_0 x0 x2 x4 I L Q
set_option maxHeartbeats 4000000 in
set_option maxRecDepth 100000 in
theorem m_X5_choice (l : Launch) (G : mm_G) (x0 : Int64) (x2 : Int64) (x4 : Int64) (I : mm_I) (L : mm_L) (Q : Int64 → mm_I → mm_L → Prop)  (hv : vc_X5_choice x0 x2 x4 I L Q) : Met l y_X5_choice w_X5_choice rm_X5_choice (mm_pre G [.long x0, .long x2, .long x4] I L) (mm_ql G Q) 0 0 G.2.2.2.1 := by
  refine Met.ofW (cc := c_X5_choice) (maxL := 6) (ret := (some .long)) (by decide) rfl ?_
  intro p e s m args below meth c s₁ B hml hw
  obtain ⟨rfl, hP, hK, hD, hC⟩ := hw
  have hts := atoms_spec (ws := w_X5_choice) B.pre
  have hown : s.vm.findClass RX5 = some m.cls := findClass_of_methodNamed B.named
  have hl := lv_entry ([.long x0, .long x2, .long x4]) (n := 6) (Nat.le_of_ble_eq_true rfl)
  rw [lg_entry_eq]
  generalize (lg_sl ([.long x0, .long x2, .long x4]) ++ List.replicate (6 - (lg_sl ([.long x0, .long x2, .long x4])).length) Slot.unset).toArray = ls at hl ⊢
  have hl : lv_has ls 6 [(0, .long x0), (2, .long x2), (4, .long x4)] := hl
  exact w_X5_choice_0 ⟨B.exec, B.bytes, B.returns, B.notSynchronized, hml, hown, fun w h => hts w (List.mem_cons_of_mem _ h), hK, hC⟩ x0 x2 x4 I L Q  hv hP hD va_S.rf hl
abbrev rm_X5_byDefault : Room := { frames := 1, cells := 0, slots := 0, locals := 21 }
def vc_X5_byDefault_0 (x0 : Int64) (x2 : Int64) (x4 : Int64) (I : mm_I) (L : mm_L) (Q : Int64 → mm_I → mm_L → Prop) : Prop :=
  (x0 = 1000000000001 → vc_X5_isInt x2 I L (fun r208 I206 L207 => (¬ r208 = 0 → (¬ x2 = 0 → Q x4 I206 L207) ∧ (x2 = 0 → Q 1000000000001 I206 L207)) ∧ (r208 = 0 → vc_X5_faultOf x2 I206 L207 (fun r211 I209 L210 => Q r211 I209 L210)))) ∧ (¬ x0 = 1000000000001 → Q x0 I L)
set_option maxHeartbeats 4000000 in
set_option maxRecDepth 100000 in
theorem w_X5_byDefault_0 {p : Program} {l : Launch} {e : Env} {s : State} {m : MethodId} {args : Array Value} {below : List Frame} {meth : Method} {c : Code} {G : mm_G} (hcx : mm_cx c_X5_byDefault (some .long) 6 RX5 G p s m args meth c) (x0 : Int64) (x2 : Int64) (x4 : Int64) (I : mm_I) (L : mm_L) (Q : Int64 → mm_I → mm_L → Prop)  (hv : vc_X5_byDefault_0 x0 x2 x4 I L Q) {H : Heap} {locs : List Loc} (hP : mm_PW G I L H) (hD : mm_DW G I L) (hS : va_S G.2.2.2.1 s.heap H locs) {ls : Array Slot} (hl : lv_has ls 6 [(0, .long x0), (2, .long x2), (4, .long x4)]) : W p l e (headSpec w_X5_byDefault rm_X5_byDefault).room s m args below meth c H locs 0 0 (MQ below (mm_ql G Q) args s 0 0 G.2.2.2.1) (F0 m 0 ls []) := by
  obtain ⟨hx, hb, hr, hlocks, hml, hown, hg, hK, hC⟩ := id hcx
  unfold vc_X5_byDefault_0 at hv
  refine lv_lload_n hx hb d_X5_byDefault_0 rfl (lv_at hl 0 rfl) ?_
  refine lv_ldc2 (v := 1000000000001) hx hb hown (hg _ k_71) d_X5_byDefault_1 ?_
  refine W.lcmp hx hb d_X5_byDefault_4 ?_
  refine lv_if_eq (tgt := 10) hx hb d_X5_byDefault_5 (by decide) (fun hc => ?_) (fun hc => ?_)
  · have hv := hv.1 ((lg_cmp_eq _ _).mp hc)
    refine lv_lload_n hx hb d_X5_byDefault_10 rfl (lv_at hl 1 rfl) ?_
    refine va_calli (va_runS (As := [.long x2]) (rest := []) ⟨hx, hb, hml, hown, hg⟩ (m_X5_isInt l G x2 I L _  hv) (va_cwS 1 hg (mm_gS k_75 k_62 k_63 kc_X5_isInt) rfl rfl rfl (by decide +kernel) ⟨Nat.le_of_ble_eq_true rfl, Nat.le_of_ble_eq_true rfl⟩) ⟨mm_blind, fun U hU hW => mm_call hP hK hD hC hU hS hW⟩ rfl rfl hl.1 rfl (lv_room (Nat.le_of_ble_eq_true rfl)) d_X5_byDefault_11 ⟨Nat.zero_le _, Nat.zero_le _⟩) hS (fun q _ h => h) (fun q h => h) (fun r208 u t H locs ht hvm hv hP hz1 hk1 hS => ?_)
    obtain ⟨I206, L207⟩ := u
    dsimp only at hv hP
    rw [ht] at hP
    have hD : mm_DW G I206 L207 := mm_D_any hD
    refine lv_if_ne (tgt := 22) hx hb d_X5_byDefault_14 (by decide) (fun hc => ?_) (fun hc => ?_)
    · have hv := hv.1 hc
      refine lv_lload_n hx hb d_X5_byDefault_22 rfl (lv_at hl 1 rfl) ?_
      refine lv_lconst (v := 0) hx hb d_X5_byDefault_23 (by decide) ?_
      refine W.lcmp hx hb d_X5_byDefault_24 ?_
      refine lv_if_ne (tgt := 34) hx hb d_X5_byDefault_25 (by decide) (fun hc => ?_) (fun hc => ?_)
      · have hv := hv.1 (fun q => hc ((lg_cmp_eq _ _).mpr q))
        refine lv_lload hx hb d_X5_byDefault_34 (lv_at hl 2 rfl) ?_
        exact W.lret (v := x4) hx hb hr (fun t ht hW => ⟨⟨x4, (I206, L207), rfl, hv, mm_mv ht hP⟩, hS.F ht⟩) hS.2.2 d_X5_byDefault_36
      · have hv := hv.2 ((lg_cmp_eq _ _).mp hc)
        refine lv_ldc2 (v := 1000000000001) hx hb hown (hg _ k_71) d_X5_byDefault_28 ?_
        refine lv_goto (tgt := 36) hx hb d_X5_byDefault_31 (by decide) ?_
        exact W.lret (v := 1000000000001) hx hb hr (fun t ht hW => ⟨⟨1000000000001, (I206, L207), rfl, hv, mm_mv ht hP⟩, hS.F ht⟩) hS.2.2 d_X5_byDefault_36
    · have hv := hv.2 hc
      refine lv_lload_n hx hb d_X5_byDefault_17 rfl (lv_at hl 1 rfl) ?_
      refine va_calll (va_runS (As := [.long x2]) (rest := []) ⟨hx, hb, hml, hown, hg⟩ (m_X5_faultOf l G x2 I206 L207 _  hv) (va_cwS 1 hg (mm_gS k_79 k_80 k_63 kc_X5_faultOf) rfl rfl rfl (by decide +kernel) ⟨Nat.le_of_ble_eq_true rfl, Nat.le_of_ble_eq_true rfl⟩) ⟨mm_blind, fun U hU hW => mm_call hP hK hD hC hU hS hW⟩ rfl rfl hl.1 rfl (lv_room (Nat.le_of_ble_eq_true rfl)) d_X5_byDefault_18 ⟨Nat.zero_le _, Nat.zero_le _⟩) hS (fun q _ h => h) (fun q h => h) (fun r211 u t H locs ht hvm hv hP hz1 hk1 hS => ?_)
      obtain ⟨I209, L210⟩ := u
      dsimp only at hv hP
      rw [ht] at hP
      have hD : mm_DW G I209 L210 := mm_D_any hD
      exact W.lret (v := r211) hx hb hr (fun t ht hW => ⟨⟨r211, (I209, L210), rfl, hv, mm_mv ht hP⟩, hS.F ht⟩) hS.2.2 d_X5_byDefault_21
  · have hv := hv.2 (fun q => hc ((lg_cmp_eq _ _).mpr q))
    refine lv_lload_n hx hb d_X5_byDefault_8 rfl (lv_at hl 0 rfl) ?_
    exact W.lret (v := x0) hx hb hr (fun t ht hW => ⟨⟨x0, (I, L), rfl, hv, mm_mv ht hP⟩, hS.F ht⟩) hS.2.2 d_X5_byDefault_9
abbrev vc_X5_byDefault (x0 : Int64) (x2 : Int64) (x4 : Int64) (I : mm_I) (L : mm_L) (Q : Int64 → mm_I → mm_L → Prop) : Prop := vc_X5_byDefault_0 x0 x2 x4 I L Q
set_option maxHeartbeats 4000000 in
set_option maxRecDepth 100000 in
theorem m_X5_byDefault (l : Launch) (G : mm_G) (x0 : Int64) (x2 : Int64) (x4 : Int64) (I : mm_I) (L : mm_L) (Q : Int64 → mm_I → mm_L → Prop)  (hv : vc_X5_byDefault x0 x2 x4 I L Q) : Met l y_X5_byDefault w_X5_byDefault rm_X5_byDefault (mm_pre G [.long x0, .long x2, .long x4] I L) (mm_ql G Q) 0 0 G.2.2.2.1 := by
  refine Met.ofW (cc := c_X5_byDefault) (maxL := 6) (ret := (some .long)) (by decide) rfl ?_
  intro p e s m args below meth c s₁ B hml hw
  obtain ⟨rfl, hP, hK, hD, hC⟩ := hw
  have hts := atoms_spec (ws := w_X5_byDefault) B.pre
  have hown : s.vm.findClass RX5 = some m.cls := findClass_of_methodNamed B.named
  have hl := lv_entry ([.long x0, .long x2, .long x4]) (n := 6) (Nat.le_of_ble_eq_true rfl)
  rw [lg_entry_eq]
  generalize (lg_sl ([.long x0, .long x2, .long x4]) ++ List.replicate (6 - (lg_sl ([.long x0, .long x2, .long x4])).length) Slot.unset).toArray = ls at hl ⊢
  have hl : lv_has ls 6 [(0, .long x0), (2, .long x2), (4, .long x4)] := hl
  exact w_X5_byDefault_0 ⟨B.exec, B.bytes, B.returns, B.notSynchronized, hml, hown, fun w h => hts w (List.mem_cons_of_mem _ h), hK, hC⟩ x0 x2 x4 I L Q  hv hP hD va_S.rf hl
abbrev rm_X5_also : Room := { frames := 1, cells := 0, slots := 0, locals := 21 }
def vc_X5_also_54 (x0 : Int64) (x2 : Int64) (I : mm_I) (L : mm_L) (Q : Int64 → mm_I → mm_L → Prop) : Prop :=
  (x0 = 1000000000001 → Q x2 I L) ∧ (¬ x0 = 1000000000001 → Q x0 I L)
def vc_X5_also_34 (x0 : Int64) (x2 : Int64) (I : mm_I) (L : mm_L) (Q : Int64 → mm_I → mm_L → Prop) : Prop :=
  (x0 = 1000000000001 → vc_X5_also_54 x0 x2 I L Q) ∧ (¬ x0 = 1000000000001 → (x2 = 1000000000001 → vc_X5_also_54 x0 x2 I L Q) ∧ (¬ x2 = 1000000000001 → Q 1000000000101 I L))
def vc_X5_also_17 (x0 : Int64) (x2 : Int64) (I : mm_I) (L : mm_L) (Q : Int64 → mm_I → mm_L → Prop) : Prop :=
  (x2 = 1000000000001 → vc_X5_also_34 x0 x2 I L Q) ∧ (¬ x2 = 1000000000001 → vc_X5_isInt x2 I L (fun r217 I215 L216 => (¬ r217 = 0 → vc_X5_also_34 x0 x2 I215 L216 Q) ∧ (r217 = 0 → Q x2 I215 L216)))
def vc_X5_also_0 (x0 : Int64) (x2 : Int64) (I : mm_I) (L : mm_L) (Q : Int64 → mm_I → mm_L → Prop) : Prop :=
  (x0 = 1000000000001 → vc_X5_also_17 x0 x2 I L Q) ∧ (¬ x0 = 1000000000001 → vc_X5_isInt x0 I L (fun r214 I212 L213 => (¬ r214 = 0 → vc_X5_also_17 x0 x2 I212 L213 Q) ∧ (r214 = 0 → Q x0 I212 L213)))
set_option maxHeartbeats 4000000 in
set_option maxRecDepth 100000 in
theorem w_X5_also_54 {p : Program} {l : Launch} {e : Env} {s : State} {m : MethodId} {args : Array Value} {below : List Frame} {meth : Method} {c : Code} {G : mm_G} (hcx : mm_cx c_X5_also (some .long) 4 RX5 G p s m args meth c) (x0 : Int64) (x2 : Int64) (I : mm_I) (L : mm_L) (Q : Int64 → mm_I → mm_L → Prop)  (hv : vc_X5_also_54 x0 x2 I L Q) {H : Heap} {locs : List Loc} (hP : mm_PW G I L H) (hD : mm_DW G I L) (hS : va_S G.2.2.2.1 s.heap H locs) {ls : Array Slot} (hl : lv_has ls 4 [(0, .long x0), (2, .long x2)]) : W p l e (headSpec w_X5_also rm_X5_also).room s m args below meth c H locs 0 0 (MQ below (mm_ql G Q) args s 0 0 G.2.2.2.1) (F0 m 54 ls []) := by
  obtain ⟨hx, hb, hr, hlocks, hml, hown, hg, hK, hC⟩ := id hcx
  unfold vc_X5_also_54 at hv
  refine lv_lload_n hx hb d_X5_also_54 rfl (lv_at hl 0 rfl) ?_
  refine lv_ldc2 (v := 1000000000001) hx hb hown (hg _ k_71) d_X5_also_55 ?_
  refine W.lcmp hx hb d_X5_also_58 ?_
  refine lv_if_eq (tgt := 66) hx hb d_X5_also_59 (by decide) (fun hc => ?_) (fun hc => ?_)
  · have hv := hv.1 ((lg_cmp_eq _ _).mp hc)
    refine lv_lload_n hx hb d_X5_also_66 rfl (lv_at hl 1 rfl) ?_
    exact W.lret (v := x2) hx hb hr (fun t ht hW => ⟨⟨x2, (I, L), rfl, hv, mm_mv ht hP⟩, hS.F ht⟩) hS.2.2 d_X5_also_67
  · have hv := hv.2 (fun q => hc ((lg_cmp_eq _ _).mpr q))
    refine lv_lload_n hx hb d_X5_also_62 rfl (lv_at hl 0 rfl) ?_
    refine lv_goto (tgt := 67) hx hb d_X5_also_63 (by decide) ?_
    exact W.lret (v := x0) hx hb hr (fun t ht hW => ⟨⟨x0, (I, L), rfl, hv, mm_mv ht hP⟩, hS.F ht⟩) hS.2.2 d_X5_also_67
set_option maxHeartbeats 4000000 in
set_option maxRecDepth 100000 in
theorem w_X5_also_34 {p : Program} {l : Launch} {e : Env} {s : State} {m : MethodId} {args : Array Value} {below : List Frame} {meth : Method} {c : Code} {G : mm_G} (hcx : mm_cx c_X5_also (some .long) 4 RX5 G p s m args meth c) (x0 : Int64) (x2 : Int64) (I : mm_I) (L : mm_L) (Q : Int64 → mm_I → mm_L → Prop)  (hv : vc_X5_also_34 x0 x2 I L Q) {H : Heap} {locs : List Loc} (hP : mm_PW G I L H) (hD : mm_DW G I L) (hS : va_S G.2.2.2.1 s.heap H locs) {ls : Array Slot} (hl : lv_has ls 4 [(0, .long x0), (2, .long x2)]) : W p l e (headSpec w_X5_also rm_X5_also).room s m args below meth c H locs 0 0 (MQ below (mm_ql G Q) args s 0 0 G.2.2.2.1) (F0 m 34 ls []) := by
  obtain ⟨hx, hb, hr, hlocks, hml, hown, hg, hK, hC⟩ := id hcx
  unfold vc_X5_also_34 at hv
  refine lv_lload_n hx hb d_X5_also_34 rfl (lv_at hl 0 rfl) ?_
  refine lv_ldc2 (v := 1000000000001) hx hb hown (hg _ k_71) d_X5_also_35 ?_
  refine W.lcmp hx hb d_X5_also_38 ?_
  refine lv_if_eq (tgt := 54) hx hb d_X5_also_39 (by decide) (fun hc => ?_) (fun hc => ?_)
  · have hv := hv.1 ((lg_cmp_eq _ _).mp hc)
    exact w_X5_also_54 hcx x0 x2 I L Q  hv hP hD hS (lv_sub hl [0, 1] rfl)
  · have hv := hv.2 (fun q => hc ((lg_cmp_eq _ _).mpr q))
    refine lv_lload_n hx hb d_X5_also_42 rfl (lv_at hl 1 rfl) ?_
    refine lv_ldc2 (v := 1000000000001) hx hb hown (hg _ k_71) d_X5_also_43 ?_
    refine W.lcmp hx hb d_X5_also_46 ?_
    refine lv_if_eq (tgt := 54) hx hb d_X5_also_47 (by decide) (fun hc => ?_) (fun hc => ?_)
    · have hv := hv.1 ((lg_cmp_eq _ _).mp hc)
      exact w_X5_also_54 hcx x0 x2 I L Q  hv hP hD hS (lv_sub hl [0, 1] rfl)
    · have hv := hv.2 (fun q => hc ((lg_cmp_eq _ _).mpr q))
      refine lv_ldc2 (v := 1000000000101) hx hb hown (hg _ k_83) d_X5_also_50 ?_
      exact W.lret (v := 1000000000101) hx hb hr (fun t ht hW => ⟨⟨1000000000101, (I, L), rfl, hv, mm_mv ht hP⟩, hS.F ht⟩) hS.2.2 d_X5_also_53
set_option maxHeartbeats 4000000 in
set_option maxRecDepth 100000 in
theorem w_X5_also_17 {p : Program} {l : Launch} {e : Env} {s : State} {m : MethodId} {args : Array Value} {below : List Frame} {meth : Method} {c : Code} {G : mm_G} (hcx : mm_cx c_X5_also (some .long) 4 RX5 G p s m args meth c) (x0 : Int64) (x2 : Int64) (I : mm_I) (L : mm_L) (Q : Int64 → mm_I → mm_L → Prop)  (hv : vc_X5_also_17 x0 x2 I L Q) {H : Heap} {locs : List Loc} (hP : mm_PW G I L H) (hD : mm_DW G I L) (hS : va_S G.2.2.2.1 s.heap H locs) {ls : Array Slot} (hl : lv_has ls 4 [(0, .long x0), (2, .long x2)]) : W p l e (headSpec w_X5_also rm_X5_also).room s m args below meth c H locs 0 0 (MQ below (mm_ql G Q) args s 0 0 G.2.2.2.1) (F0 m 17 ls []) := by
  obtain ⟨hx, hb, hr, hlocks, hml, hown, hg, hK, hC⟩ := id hcx
  unfold vc_X5_also_17 at hv
  refine lv_lload_n hx hb d_X5_also_17 rfl (lv_at hl 1 rfl) ?_
  refine lv_ldc2 (v := 1000000000001) hx hb hown (hg _ k_71) d_X5_also_18 ?_
  refine W.lcmp hx hb d_X5_also_21 ?_
  refine lv_if_eq (tgt := 34) hx hb d_X5_also_22 (by decide) (fun hc => ?_) (fun hc => ?_)
  · have hv := hv.1 ((lg_cmp_eq _ _).mp hc)
    exact w_X5_also_34 hcx x0 x2 I L Q  hv hP hD hS (lv_sub hl [0, 1] rfl)
  · have hv := hv.2 (fun q => hc ((lg_cmp_eq _ _).mpr q))
    refine lv_lload_n hx hb d_X5_also_25 rfl (lv_at hl 1 rfl) ?_
    refine va_calli (va_runS (As := [.long x2]) (rest := []) ⟨hx, hb, hml, hown, hg⟩ (m_X5_isInt l G x2 I L _  hv) (va_cwS 1 hg (mm_gS k_75 k_62 k_63 kc_X5_isInt) rfl rfl rfl (by decide +kernel) ⟨Nat.le_of_ble_eq_true rfl, Nat.le_of_ble_eq_true rfl⟩) ⟨mm_blind, fun U hU hW => mm_call hP hK hD hC hU hS hW⟩ rfl rfl hl.1 rfl (lv_room (Nat.le_of_ble_eq_true rfl)) d_X5_also_26 ⟨Nat.zero_le _, Nat.zero_le _⟩) hS (fun q _ h => h) (fun q h => h) (fun r217 u t H locs ht hvm hv hP hz1 hk1 hS => ?_)
    obtain ⟨I215, L216⟩ := u
    dsimp only at hv hP
    rw [ht] at hP
    have hD : mm_DW G I215 L216 := mm_D_any hD
    refine lv_if_ne (tgt := 34) hx hb d_X5_also_29 (by decide) (fun hc => ?_) (fun hc => ?_)
    · have hv := hv.1 hc
      exact w_X5_also_34 hcx x0 x2 I215 L216 Q  hv hP hD hS (lv_sub hl [0, 1] rfl)
    · have hv := hv.2 hc
      refine lv_lload_n hx hb d_X5_also_32 rfl (lv_at hl 1 rfl) ?_
      exact W.lret (v := x2) hx hb hr (fun t ht hW => ⟨⟨x2, (I215, L216), rfl, hv, mm_mv ht hP⟩, hS.F ht⟩) hS.2.2 d_X5_also_33
set_option maxHeartbeats 4000000 in
set_option maxRecDepth 100000 in
theorem w_X5_also_0 {p : Program} {l : Launch} {e : Env} {s : State} {m : MethodId} {args : Array Value} {below : List Frame} {meth : Method} {c : Code} {G : mm_G} (hcx : mm_cx c_X5_also (some .long) 4 RX5 G p s m args meth c) (x0 : Int64) (x2 : Int64) (I : mm_I) (L : mm_L) (Q : Int64 → mm_I → mm_L → Prop)  (hv : vc_X5_also_0 x0 x2 I L Q) {H : Heap} {locs : List Loc} (hP : mm_PW G I L H) (hD : mm_DW G I L) (hS : va_S G.2.2.2.1 s.heap H locs) {ls : Array Slot} (hl : lv_has ls 4 [(0, .long x0), (2, .long x2)]) : W p l e (headSpec w_X5_also rm_X5_also).room s m args below meth c H locs 0 0 (MQ below (mm_ql G Q) args s 0 0 G.2.2.2.1) (F0 m 0 ls []) := by
  obtain ⟨hx, hb, hr, hlocks, hml, hown, hg, hK, hC⟩ := id hcx
  unfold vc_X5_also_0 at hv
  refine lv_lload_n hx hb d_X5_also_0 rfl (lv_at hl 0 rfl) ?_
  refine lv_ldc2 (v := 1000000000001) hx hb hown (hg _ k_71) d_X5_also_1 ?_
  refine W.lcmp hx hb d_X5_also_4 ?_
  refine lv_if_eq (tgt := 17) hx hb d_X5_also_5 (by decide) (fun hc => ?_) (fun hc => ?_)
  · have hv := hv.1 ((lg_cmp_eq _ _).mp hc)
    exact w_X5_also_17 hcx x0 x2 I L Q  hv hP hD hS (lv_sub hl [0, 1] rfl)
  · have hv := hv.2 (fun q => hc ((lg_cmp_eq _ _).mpr q))
    refine lv_lload_n hx hb d_X5_also_8 rfl (lv_at hl 0 rfl) ?_
    refine va_calli (va_runS (As := [.long x0]) (rest := []) ⟨hx, hb, hml, hown, hg⟩ (m_X5_isInt l G x0 I L _  hv) (va_cwS 1 hg (mm_gS k_75 k_62 k_63 kc_X5_isInt) rfl rfl rfl (by decide +kernel) ⟨Nat.le_of_ble_eq_true rfl, Nat.le_of_ble_eq_true rfl⟩) ⟨mm_blind, fun U hU hW => mm_call hP hK hD hC hU hS hW⟩ rfl rfl hl.1 rfl (lv_room (Nat.le_of_ble_eq_true rfl)) d_X5_also_9 ⟨Nat.zero_le _, Nat.zero_le _⟩) hS (fun q _ h => h) (fun q h => h) (fun r214 u t H locs ht hvm hv hP hz1 hk1 hS => ?_)
    obtain ⟨I212, L213⟩ := u
    dsimp only at hv hP
    rw [ht] at hP
    have hD : mm_DW G I212 L213 := mm_D_any hD
    refine lv_if_ne (tgt := 17) hx hb d_X5_also_12 (by decide) (fun hc => ?_) (fun hc => ?_)
    · have hv := hv.1 hc
      exact w_X5_also_17 hcx x0 x2 I212 L213 Q  hv hP hD hS (lv_sub hl [0, 1] rfl)
    · have hv := hv.2 hc
      refine lv_lload_n hx hb d_X5_also_15 rfl (lv_at hl 0 rfl) ?_
      exact W.lret (v := x0) hx hb hr (fun t ht hW => ⟨⟨x0, (I212, L213), rfl, hv, mm_mv ht hP⟩, hS.F ht⟩) hS.2.2 d_X5_also_16
abbrev vc_X5_also (x0 : Int64) (x2 : Int64) (I : mm_I) (L : mm_L) (Q : Int64 → mm_I → mm_L → Prop) : Prop := vc_X5_also_0 x0 x2 I L Q
set_option maxHeartbeats 4000000 in
set_option maxRecDepth 100000 in
theorem m_X5_also (l : Launch) (G : mm_G) (x0 : Int64) (x2 : Int64) (I : mm_I) (L : mm_L) (Q : Int64 → mm_I → mm_L → Prop)  (hv : vc_X5_also x0 x2 I L Q) : Met l y_X5_also w_X5_also rm_X5_also (mm_pre G [.long x0, .long x2] I L) (mm_ql G Q) 0 0 G.2.2.2.1 := by
  refine Met.ofW (cc := c_X5_also) (maxL := 4) (ret := (some .long)) (by decide) rfl ?_
  intro p e s m args below meth c s₁ B hml hw
  obtain ⟨rfl, hP, hK, hD, hC⟩ := hw
  have hts := atoms_spec (ws := w_X5_also) B.pre
  have hown : s.vm.findClass RX5 = some m.cls := findClass_of_methodNamed B.named
  have hl := lv_entry ([.long x0, .long x2]) (n := 4) (Nat.le_of_ble_eq_true rfl)
  rw [lg_entry_eq]
  generalize (lg_sl ([.long x0, .long x2]) ++ List.replicate (4 - (lg_sl ([.long x0, .long x2])).length) Slot.unset).toArray = ls at hl ⊢
  have hl : lv_has ls 4 [(0, .long x0), (2, .long x2)] := hl
  exact w_X5_also_0 ⟨B.exec, B.bytes, B.returns, B.notSynchronized, hml, hown, fun w h => hts w (List.mem_cons_of_mem _ h), hK, hC⟩ x0 x2 I L Q  hv hP hD va_S.rf hl
abbrev rm_X4_scaled : Room := { frames := 1, cells := 0, slots := 0, locals := 29 }
def vc_X4_scaled_96 (x3 : Int64) (I : mm_I) (L : mm_L) (Q : Int64 → mm_I → mm_L → Prop) : Prop :=
  vc_X5_rounded x3 1000 I L (fun r232 I230 L231 => Q r232 I230 L231)
def vc_X4_scaled_20 : Nat → Nat → Int64 → Int64 → Int64 → Int32 → mm_I → mm_L → (Int64 → mm_I → mm_L → Prop) → Prop
  | 0, _, _, _, _, _, _, _, _ => False
  | n9 + 1, p0, x1, x3, x5, x7, I, L, Q => ((I (18 + p0) 2) ≤ x7 → vc_X4_scaled_96 x3 I L Q) ∧ (¬ (I (18 + p0) 2) ≤ x7 → (x1 ≤ x5 → vc_X4_scaled_96 x3 I L Q) ∧ (¬ x1 ≤ x5 → vp_in x7 5 ∧ (((I (20 + p0) x7.toNatClampNeg)).toInt64 ≤ x1 → vp_in x7 5 ∧ vp_in x7 5 ∧ vp_in x7 5 ∧ vc_X4_scaled_20 n9 p0 x1 (x3 + ((((I (20 + p0) x7.toNatClampNeg)).toInt64 - x5) * ((I (22 + p0) x7.toNatClampNeg)).toInt64)) (((I (20 + p0) x7.toNatClampNeg)).toInt64) (x7 + 1) I L Q) ∧ (¬ ((I (20 + p0) x7.toNatClampNeg)).toInt64 ≤ x1 → vp_in x7 5 ∧ vp_in x7 5 ∧ vc_X4_scaled_20 n9 p0 x1 (x3 + ((x1 - x5) * ((I (22 + p0) x7.toNatClampNeg)).toInt64)) (((I (20 + p0) x7.toNatClampNeg)).toInt64) (x7 + 1) I L Q)))
def vc_X4_scaled_0 (p0 : Nat) (x1 : Int64) (I : mm_I) (L : mm_L) (Q : Int64 → mm_I → mm_L → Prop) : Prop :=
  vc_X5_isInt x1 I L (fun r220 I218 L219 => (¬ r220 = 0 → ∃ n, vc_X4_scaled_20 n p0 x1 0 0 0 I218 L219 Q) ∧ (r220 = 0 → vc_X5_faultOf x1 I218 L219 (fun r223 I221 L222 => Q r223 I221 L222)))
set_option maxHeartbeats 4000000 in
set_option maxRecDepth 100000 in
theorem w_X4_scaled_96 {p : Program} {l : Launch} {e : Env} {s : State} {m : MethodId} {args : Array Value} {below : List Frame} {meth : Method} {c : Code} {G : mm_G} (hcx : mm_cx c_X4_scaled (some .long) 10 RX4 G p s m args meth c) (x3 : Int64) (I : mm_I) (L : mm_L) (Q : Int64 → mm_I → mm_L → Prop)  (hv : vc_X4_scaled_96 x3 I L Q) {H : Heap} {locs : List Loc} (hP : mm_PW G I L H) (hD : mm_DW G I L) (hS : va_S G.2.2.2.1 s.heap H locs) {ls : Array Slot} (hl : lv_has ls 10 [(3, .long x3)]) : W p l e (headSpec w_X4_scaled rm_X4_scaled).room s m args below meth c H locs 0 0 (MQ below (mm_ql G Q) args s 0 0 G.2.2.2.1) (F0 m 96 ls []) := by
  obtain ⟨hx, hb, hr, hlocks, hml, hown, hg, hK, hC⟩ := id hcx
  unfold vc_X4_scaled_96 at hv
  refine lv_lload_n hx hb d_X4_scaled_96 rfl (lv_at hl 0 rfl) ?_
  refine lv_ldc2 (v := 1000) hx hb hown (hg _ k_86) d_X4_scaled_97 ?_
  refine va_calll (va_runS (As := [.long x3, .long 1000]) (rest := []) ⟨hx, hb, hml, hown, hg⟩ (m_X5_rounded l G x3 1000 I L _  hv) (va_cwS 2 hg (mm_gS k_87 k_77 k_63 kc_X5_rounded) rfl rfl rfl (by decide +kernel) ⟨Nat.le_of_ble_eq_true rfl, Nat.le_of_ble_eq_true rfl⟩) ⟨mm_blind, fun U hU hW => mm_call hP hK hD hC hU hS hW⟩ rfl rfl hl.1 rfl (lv_room (Nat.le_of_ble_eq_true rfl)) d_X4_scaled_100 ⟨Nat.zero_le _, Nat.zero_le _⟩) hS (fun q _ h => h) (fun q h => h) (fun r232 u t H locs ht hvm hv hP hz1 hk1 hS => ?_)
  obtain ⟨I230, L231⟩ := u
  dsimp only at hv hP
  rw [ht] at hP
  have hD : mm_DW G I230 L231 := mm_D_any hD
  exact W.lret (v := r232) hx hb hr (fun t ht hW => ⟨⟨r232, (I230, L231), rfl, hv, mm_mv ht hP⟩, hS.F ht⟩) hS.2.2 d_X4_scaled_103
set_option maxHeartbeats 4000000 in
set_option maxRecDepth 100000 in
theorem w_X4_scaled_20 {p : Program} {l : Launch} {e : Env} {s : State} {m : MethodId} {args : Array Value} {below : List Frame} {meth : Method} {c : Code} {G : mm_G} (hcx : mm_cx c_X4_scaled (some .long) 10 RX4 G p s m args meth c) (Q : Int64 → mm_I → mm_L → Prop) : ∀ (n9 : Nat) (p0 : Nat) (x1 : Int64) (x3 : Int64) (x5 : Int64) (x7 : Int32) (I : mm_I) (L : mm_L) (hp0 : p0 < 2) (H : Heap) (locs : List Loc) (ls : Array Slot), vc_X4_scaled_20 n9 p0 x1 x3 x5 x7 I L Q → mm_PW G I L H → mm_DW G I L → va_S G.2.2.2.1 s.heap H locs → lv_has ls 10 [(0, .ref (G.2.2.1 (18 + p0))), (1, .long x1), (3, .long x3), (5, .long x5), (7, .int x7)] → W p l e (headSpec w_X4_scaled rm_X4_scaled).room s m args below meth c H locs 0 0 (MQ below (mm_ql G Q) args s 0 0 G.2.2.2.1) (F0 m 20 ls []) := by
  obtain ⟨hx, hb, hr, hlocks, hml, hown, hg, hK, hC⟩ := id hcx
  intro n9
  induction n9 with
  | zero => intro p0 x1 x3 x5 x7 I L hp0 H locs ls hv hP hD hS hl; exact hv.elim
  | succ n9 ih =>
    intro p0 x1 x3 x5 x7 I L hp0 H locs ls hv hP hD hS hl
    rw [vc_X4_scaled_20] at hv
    refine lv_iload hx hb d_X4_scaled_20 (lv_at hl 4 rfl) ?_
    refine lv_aload_n hx hb d_X4_scaled_22 rfl (lv_at hl 0 rfl) ?_
    refine mm_gi (D := G.1) (C := RX4) (T := TX4) (N0 := 3) hx hb hg in_X4 hown hK hP (t := (18 + p0)) (ly_N_TB hp0) (ly_TB hp0) rfl 2 (by decide) (hg _ k_43) (fun _ h9 => h9) rfl d_X4_scaled_23 ?_
    refine lv_icmp_ge (tgt := 96) hx hb d_X4_scaled_26 (by decide) (fun hc => ?_) (fun hc => ?_)
    · have hv := hv.1 hc
      exact w_X4_scaled_96 hcx x3 I L Q  hv hP hD hS (lv_sub hl [2] rfl)
    · have hv := hv.2 hc
      refine lv_lload hx hb d_X4_scaled_29 (lv_at hl 3 rfl) ?_
      refine lv_lload_n hx hb d_X4_scaled_31 rfl (lv_at hl 1 rfl) ?_
      refine W.lcmp hx hb d_X4_scaled_32 ?_
      refine lv_if_ge (tgt := 96) hx hb d_X4_scaled_33 (by decide) (fun hc => ?_) (fun hc => ?_)
      · have hv := hv.1 ((lg_cmp_ge _ _).mp hc)
        exact w_X4_scaled_96 hcx x3 I L Q  hv hP hD hS (lv_sub hl [2] rfl)
      · have hv := hv.2 (fun q => hc ((lg_cmp_ge _ _).mpr q))
        refine lv_lload_n hx hb d_X4_scaled_36 rfl (lv_at hl 1 rfl) ?_
        refine lv_aload_n hx hb d_X4_scaled_37 rfl (lv_at hl 0 rfl) ?_
        refine mm_gr (D := G.1) (C := RX4) (T := TX4) (N0 := 3) (r := (20 + p0)) hx hb hg in_X4 hown hK hP (t := (18 + p0)) (ly_N_TB hp0) (ly_TB hp0) rfl 0 (by decide) (hg _ k_44) (fun _ h9 => h9) rfl d_X4_scaled_38 ?_
        refine lv_iload hx hb d_X4_scaled_41 (lv_at hl 4 rfl) ?_
        obtain ⟨h224, hv⟩ := hv
        refine mm_iald (D := G.1) hx hb hK hP (t := (20 + p0)) (ly_N_LIM hp0) (ly_LIM hp0) rfl h224 d_X4_scaled_43 ?_
        refine lv_i2l (v := ((I (20 + p0) x7.toNatClampNeg)).toInt64) hx hb d_X4_scaled_44 rfl ?_
        refine W.lcmp hx hb d_X4_scaled_45 ?_
        refine lv_if_ge (tgt := 53) hx hb d_X4_scaled_46 (by decide) (fun hc => ?_) (fun hc => ?_)
        · have hv := hv.1 ((lg_cmp_ge _ _).mp hc)
          refine lv_aload_n hx hb d_X4_scaled_53 rfl (lv_at hl 0 rfl) ?_
          refine mm_gr (D := G.1) (C := RX4) (T := TX4) (N0 := 3) (r := (20 + p0)) hx hb hg in_X4 hown hK hP (t := (18 + p0)) (ly_N_TB hp0) (ly_TB hp0) rfl 0 (by decide) (hg _ k_44) (fun _ h9 => h9) rfl d_X4_scaled_54 ?_
          refine lv_iload hx hb d_X4_scaled_57 (lv_at hl 4 rfl) ?_
          obtain ⟨h225, hv⟩ := hv
          refine mm_iald (D := G.1) hx hb hK hP (t := (20 + p0)) (ly_N_LIM hp0) (ly_LIM hp0) rfl h225 d_X4_scaled_59 ?_
          refine lv_i2l (v := ((I (20 + p0) x7.toNatClampNeg)).toInt64) hx hb d_X4_scaled_60 rfl ?_
          refine lv_lstore (lv' := [(8, .long ((I (20 + p0) x7.toNatClampNeg)).toInt64), (0, .ref (G.2.2.1 (18 + p0))), (1, .long x1), (3, .long x3), (5, .long x5), (7, .int x7)]) hx hb d_X4_scaled_61 hl (by decide) rfl (fun ls hl => ?_)
          refine lv_lload_n hx hb d_X4_scaled_63 rfl (lv_at hl 3 rfl) ?_
          refine lv_lload hx hb d_X4_scaled_64 (lv_at hl 0 rfl) ?_
          refine lv_lload hx hb d_X4_scaled_66 (lv_at hl 4 rfl) ?_
          refine lv_lsub hx hb d_X4_scaled_68 ?_
          refine lv_aload_n hx hb d_X4_scaled_69 rfl (lv_at hl 1 rfl) ?_
          refine mm_gr (D := G.1) (C := RX4) (T := TX4) (N0 := 3) (r := (22 + p0)) hx hb hg in_X4 hown hK hP (t := (18 + p0)) (ly_N_TB hp0) (ly_TB hp0) rfl 1 (by decide) (hg _ k_45) (fun _ h9 => h9) rfl d_X4_scaled_70 ?_
          refine lv_iload hx hb d_X4_scaled_73 (lv_at hl 5 rfl) ?_
          obtain ⟨h226, hv⟩ := hv
          refine mm_iald (D := G.1) hx hb hK hP (t := (22 + p0)) (ly_N_RAT hp0) (ly_RAT hp0) rfl h226 d_X4_scaled_75 ?_
          refine lv_i2l (v := ((I (22 + p0) x7.toNatClampNeg)).toInt64) hx hb d_X4_scaled_76 rfl ?_
          refine lv_lmul hx hb d_X4_scaled_77 ?_
          refine lv_ladd hx hb d_X4_scaled_78 ?_
          refine lv_lstore_n (lv' := [(3, .long (x3 + ((((I (20 + p0) x7.toNatClampNeg)).toInt64 - x5) * ((I (22 + p0) x7.toNatClampNeg)).toInt64))), (8, .long ((I (20 + p0) x7.toNatClampNeg)).toInt64), (0, .ref (G.2.2.1 (18 + p0))), (1, .long x1), (5, .long x5), (7, .int x7)]) hx hb d_X4_scaled_79 rfl hl (by decide) rfl (fun ls hl => ?_)
          refine lv_aload_n hx hb d_X4_scaled_80 rfl (lv_at hl 2 rfl) ?_
          refine mm_gr (D := G.1) (C := RX4) (T := TX4) (N0 := 3) (r := (20 + p0)) hx hb hg in_X4 hown hK hP (t := (18 + p0)) (ly_N_TB hp0) (ly_TB hp0) rfl 0 (by decide) (hg _ k_44) (fun _ h9 => h9) rfl d_X4_scaled_81 ?_
          refine lv_iload hx hb d_X4_scaled_84 (lv_at hl 5 rfl) ?_
          obtain ⟨h227, hv⟩ := hv
          refine mm_iald (D := G.1) hx hb hK hP (t := (20 + p0)) (ly_N_LIM hp0) (ly_LIM hp0) rfl h227 d_X4_scaled_86 ?_
          refine lv_i2l (v := ((I (20 + p0) x7.toNatClampNeg)).toInt64) hx hb d_X4_scaled_87 rfl ?_
          refine lv_lstore (lv' := [(5, .long ((I (20 + p0) x7.toNatClampNeg)).toInt64), (3, .long (x3 + ((((I (20 + p0) x7.toNatClampNeg)).toInt64 - x5) * ((I (22 + p0) x7.toNatClampNeg)).toInt64))), (8, .long ((I (20 + p0) x7.toNatClampNeg)).toInt64), (0, .ref (G.2.2.1 (18 + p0))), (1, .long x1), (7, .int x7)]) hx hb d_X4_scaled_88 hl (by decide) rfl (fun ls hl => ?_)
          refine lv_iinc (v := (x7 + 1)) (lv' := [(7, .int (x7 + 1)), (5, .long ((I (20 + p0) x7.toNatClampNeg)).toInt64), (3, .long (x3 + ((((I (20 + p0) x7.toNatClampNeg)).toInt64 - x5) * ((I (22 + p0) x7.toNatClampNeg)).toInt64))), (8, .long ((I (20 + p0) x7.toNatClampNeg)).toInt64), (0, .ref (G.2.2.1 (18 + p0))), (1, .long x1)]) hx hb d_X4_scaled_90 hl (k := 5) rfl (by rfl) (by decide) rfl (fun ls hl => ?_)
          refine lv_goto (tgt := 20) hx hb d_X4_scaled_93 (by decide) ?_
          exact ih p0 x1 (x3 + ((((I (20 + p0) x7.toNatClampNeg)).toInt64 - x5) * ((I (22 + p0) x7.toNatClampNeg)).toInt64)) (((I (20 + p0) x7.toNatClampNeg)).toInt64) (x7 + 1) I L hp0 H locs ls hv hP hD hS (lv_sub hl [4, 5, 2, 1, 0] rfl)
        · have hv := hv.2 (fun q => hc ((lg_cmp_ge _ _).mpr q))
          refine lv_lload_n hx hb d_X4_scaled_49 rfl (lv_at hl 1 rfl) ?_
          refine lv_goto (tgt := 61) hx hb d_X4_scaled_50 (by decide) ?_
          refine lv_lstore (lv' := [(8, .long x1), (0, .ref (G.2.2.1 (18 + p0))), (1, .long x1), (3, .long x3), (5, .long x5), (7, .int x7)]) hx hb d_X4_scaled_61 hl (by decide) rfl (fun ls hl => ?_)
          refine lv_lload_n hx hb d_X4_scaled_63 rfl (lv_at hl 3 rfl) ?_
          refine lv_lload hx hb d_X4_scaled_64 (lv_at hl 0 rfl) ?_
          refine lv_lload hx hb d_X4_scaled_66 (lv_at hl 4 rfl) ?_
          refine lv_lsub hx hb d_X4_scaled_68 ?_
          refine lv_aload_n hx hb d_X4_scaled_69 rfl (lv_at hl 1 rfl) ?_
          refine mm_gr (D := G.1) (C := RX4) (T := TX4) (N0 := 3) (r := (22 + p0)) hx hb hg in_X4 hown hK hP (t := (18 + p0)) (ly_N_TB hp0) (ly_TB hp0) rfl 1 (by decide) (hg _ k_45) (fun _ h9 => h9) rfl d_X4_scaled_70 ?_
          refine lv_iload hx hb d_X4_scaled_73 (lv_at hl 5 rfl) ?_
          obtain ⟨h228, hv⟩ := hv
          refine mm_iald (D := G.1) hx hb hK hP (t := (22 + p0)) (ly_N_RAT hp0) (ly_RAT hp0) rfl h228 d_X4_scaled_75 ?_
          refine lv_i2l (v := ((I (22 + p0) x7.toNatClampNeg)).toInt64) hx hb d_X4_scaled_76 rfl ?_
          refine lv_lmul hx hb d_X4_scaled_77 ?_
          refine lv_ladd hx hb d_X4_scaled_78 ?_
          refine lv_lstore_n (lv' := [(3, .long (x3 + ((x1 - x5) * ((I (22 + p0) x7.toNatClampNeg)).toInt64))), (8, .long x1), (0, .ref (G.2.2.1 (18 + p0))), (1, .long x1), (5, .long x5), (7, .int x7)]) hx hb d_X4_scaled_79 rfl hl (by decide) rfl (fun ls hl => ?_)
          refine lv_aload_n hx hb d_X4_scaled_80 rfl (lv_at hl 2 rfl) ?_
          refine mm_gr (D := G.1) (C := RX4) (T := TX4) (N0 := 3) (r := (20 + p0)) hx hb hg in_X4 hown hK hP (t := (18 + p0)) (ly_N_TB hp0) (ly_TB hp0) rfl 0 (by decide) (hg _ k_44) (fun _ h9 => h9) rfl d_X4_scaled_81 ?_
          refine lv_iload hx hb d_X4_scaled_84 (lv_at hl 5 rfl) ?_
          obtain ⟨h229, hv⟩ := hv
          refine mm_iald (D := G.1) hx hb hK hP (t := (20 + p0)) (ly_N_LIM hp0) (ly_LIM hp0) rfl h229 d_X4_scaled_86 ?_
          refine lv_i2l (v := ((I (20 + p0) x7.toNatClampNeg)).toInt64) hx hb d_X4_scaled_87 rfl ?_
          refine lv_lstore (lv' := [(5, .long ((I (20 + p0) x7.toNatClampNeg)).toInt64), (3, .long (x3 + ((x1 - x5) * ((I (22 + p0) x7.toNatClampNeg)).toInt64))), (8, .long x1), (0, .ref (G.2.2.1 (18 + p0))), (1, .long x1), (7, .int x7)]) hx hb d_X4_scaled_88 hl (by decide) rfl (fun ls hl => ?_)
          refine lv_iinc (v := (x7 + 1)) (lv' := [(7, .int (x7 + 1)), (5, .long ((I (20 + p0) x7.toNatClampNeg)).toInt64), (3, .long (x3 + ((x1 - x5) * ((I (22 + p0) x7.toNatClampNeg)).toInt64))), (8, .long x1), (0, .ref (G.2.2.1 (18 + p0))), (1, .long x1)]) hx hb d_X4_scaled_90 hl (k := 5) rfl (by rfl) (by decide) rfl (fun ls hl => ?_)
          refine lv_goto (tgt := 20) hx hb d_X4_scaled_93 (by decide) ?_
          exact ih p0 x1 (x3 + ((x1 - x5) * ((I (22 + p0) x7.toNatClampNeg)).toInt64)) (((I (20 + p0) x7.toNatClampNeg)).toInt64) (x7 + 1) I L hp0 H locs ls hv hP hD hS (lv_sub hl [4, 5, 2, 1, 0] rfl)
set_option maxHeartbeats 4000000 in
set_option maxRecDepth 100000 in
theorem w_X4_scaled_0 {p : Program} {l : Launch} {e : Env} {s : State} {m : MethodId} {args : Array Value} {below : List Frame} {meth : Method} {c : Code} {G : mm_G} (hcx : mm_cx c_X4_scaled (some .long) 10 RX4 G p s m args meth c) (p0 : Nat) (x1 : Int64) (I : mm_I) (L : mm_L) (Q : Int64 → mm_I → mm_L → Prop) (hp0 : p0 < 2) (hv : vc_X4_scaled_0 p0 x1 I L Q) {H : Heap} {locs : List Loc} (hP : mm_PW G I L H) (hD : mm_DW G I L) (hS : va_S G.2.2.2.1 s.heap H locs) {ls : Array Slot} (hl : lv_has ls 10 [(0, .ref (G.2.2.1 (18 + p0))), (1, .long x1)]) : W p l e (headSpec w_X4_scaled rm_X4_scaled).room s m args below meth c H locs 0 0 (MQ below (mm_ql G Q) args s 0 0 G.2.2.2.1) (F0 m 0 ls []) := by
  obtain ⟨hx, hb, hr, hlocks, hml, hown, hg, hK, hC⟩ := id hcx
  unfold vc_X4_scaled_0 at hv
  refine lv_lload_n hx hb d_X4_scaled_0 rfl (lv_at hl 1 rfl) ?_
  refine va_calli (va_runS (As := [.long x1]) (rest := []) ⟨hx, hb, hml, hown, hg⟩ (m_X5_isInt l G x1 I L _  hv) (va_cwS 1 hg (mm_gS k_85 k_62 k_63 kc_X5_isInt) rfl rfl rfl (by decide +kernel) ⟨Nat.le_of_ble_eq_true rfl, Nat.le_of_ble_eq_true rfl⟩) ⟨mm_blind, fun U hU hW => mm_call hP hK hD hC hU hS hW⟩ rfl rfl hl.1 rfl (lv_room (Nat.le_of_ble_eq_true rfl)) d_X4_scaled_1 ⟨Nat.zero_le _, Nat.zero_le _⟩) hS (fun q _ h => h) (fun q h => h) (fun r220 u t H locs ht hvm hv hP hz1 hk1 hS => ?_)
  obtain ⟨I218, L219⟩ := u
  dsimp only at hv hP
  rw [ht] at hP
  have hD : mm_DW G I218 L219 := mm_D_any hD
  refine lv_if_ne (tgt := 12) hx hb d_X4_scaled_4 (by decide) (fun hc => ?_) (fun hc => ?_)
  · have hv := hv.1 hc
    refine lv_lconst (v := 0) hx hb d_X4_scaled_12 (by decide) ?_
    refine lv_lstore_n (lv' := [(3, .long 0), (0, .ref (G.2.2.1 (18 + p0))), (1, .long x1)]) hx hb d_X4_scaled_13 rfl hl (by decide) rfl (fun ls hl => ?_)
    refine lv_lconst (v := 0) hx hb d_X4_scaled_14 (by decide) ?_
    refine lv_lstore (lv' := [(5, .long 0), (3, .long 0), (0, .ref (G.2.2.1 (18 + p0))), (1, .long x1)]) hx hb d_X4_scaled_15 hl (by decide) rfl (fun ls hl => ?_)
    refine lv_iconst (v := 0) hx hb d_X4_scaled_17 (by decide) ?_
    refine lv_istore (lv' := [(7, .int 0), (5, .long 0), (3, .long 0), (0, .ref (G.2.2.1 (18 + p0))), (1, .long x1)]) hx hb d_X4_scaled_18 hl (by decide) rfl (fun ls hl => ?_)
    obtain ⟨n, hv⟩ := hv
    exact w_X4_scaled_20 hcx Q n p0 x1 0 0 0 I218 L219 hp0 H locs ls hv hP hD hS (lv_sub hl [3, 4, 2, 1, 0] rfl)
  · have hv := hv.2 hc
    refine lv_lload_n hx hb d_X4_scaled_7 rfl (lv_at hl 1 rfl) ?_
    refine va_calll (va_runS (As := [.long x1]) (rest := []) ⟨hx, hb, hml, hown, hg⟩ (m_X5_faultOf l G x1 I218 L219 _  hv) (va_cwS 1 hg (mm_gS k_84 k_80 k_63 kc_X5_faultOf) rfl rfl rfl (by decide +kernel) ⟨Nat.le_of_ble_eq_true rfl, Nat.le_of_ble_eq_true rfl⟩) ⟨mm_blind, fun U hU hW => mm_call hP hK hD hC hU hS hW⟩ rfl rfl hl.1 rfl (lv_room (Nat.le_of_ble_eq_true rfl)) d_X4_scaled_8 ⟨Nat.zero_le _, Nat.zero_le _⟩) hS (fun q _ h => h) (fun q h => h) (fun r223 u t H locs ht hvm hv hP hz1 hk1 hS => ?_)
    obtain ⟨I221, L222⟩ := u
    dsimp only at hv hP
    rw [ht] at hP
    have hD : mm_DW G I221 L222 := mm_D_any hD
    exact W.lret (v := r223) hx hb hr (fun t ht hW => ⟨⟨r223, (I221, L222), rfl, hv, mm_mv ht hP⟩, hS.F ht⟩) hS.2.2 d_X4_scaled_11
abbrev vc_X4_scaled (p0 : Nat) (x1 : Int64) (I : mm_I) (L : mm_L) (Q : Int64 → mm_I → mm_L → Prop) : Prop := vc_X4_scaled_0 p0 x1 I L Q
set_option maxHeartbeats 4000000 in
set_option maxRecDepth 100000 in
theorem m_X4_scaled (l : Launch) (G : mm_G) (p0 : Nat) (x1 : Int64) (I : mm_I) (L : mm_L) (Q : Int64 → mm_I → mm_L → Prop) (hp0 : p0 < 2) (hv : vc_X4_scaled p0 x1 I L Q) : Met l y_X4_scaled w_X4_scaled rm_X4_scaled (mm_pre G [.ref (G.2.2.1 (18 + p0)), .long x1] I L) (mm_ql G Q) 0 0 G.2.2.2.1 := by
  refine Met.ofW (cc := c_X4_scaled) (maxL := 10) (ret := (some .long)) (by decide) rfl ?_
  intro p e s m args below meth c s₁ B hml hw
  obtain ⟨rfl, hP, hK, hD, hC⟩ := hw
  have hts := atoms_spec (ws := w_X4_scaled) B.pre
  have hown : s.vm.findClass RX4 = some m.cls := findClass_of_methodNamed B.named
  have hl := lv_entry ([.ref (G.2.2.1 (18 + p0)), .long x1]) (n := 10) (Nat.le_of_ble_eq_true rfl)
  rw [lg_entry_eq]
  generalize (lg_sl ([.ref (G.2.2.1 (18 + p0)), .long x1]) ++ List.replicate (10 - (lg_sl ([.ref (G.2.2.1 (18 + p0)), .long x1])).length) Slot.unset).toArray = ls at hl ⊢
  have hl : lv_has ls 10 [(0, .ref (G.2.2.1 (18 + p0))), (1, .long x1)] := hl
  exact w_X4_scaled_0 ⟨B.exec, B.bytes, B.returns, B.notSynchronized, hml, hown, fun w h => hts w (List.mem_cons_of_mem _ h), hK, hC⟩ p0 x1 I L Q hp0 hv hP hD va_S.rf hl
abbrev rm_X5_ofInts : Room := { frames := 0, cells := 0, slots := 0, locals := 0 }
def vc_X5_ofInts_0 (x0 : Int32) (x1 : Int64) (x3 : Int64) (I : mm_I) (L : mm_L) (Q : Int64 → mm_I → mm_L → Prop) : Prop :=
  ((x0.toInt < 4 ∨ 10 ≤ x0.toInt) → (x1 ≤ x3 → Q x3 I L) ∧ (¬ x1 ≤ x3 → Q x1 I L)) ∧ (x0 = 4 → Q (x1 + x3) I L) ∧ (x0 = 5 → Q (x1 - x3) I L) ∧ (x0 = 6 → Q (x1 * x3) I L) ∧ (x0 = 7 → (x3 ≤ x1 → Q 0 I L) ∧ (¬ x3 ≤ x1 → Q 1 I L)) ∧ (x0 = 8 → (¬ x1 = x3 → Q 0 I L) ∧ (x1 = x3 → Q 1 I L)) ∧ (x0 = 9 → (x3 ≤ x1 → Q x3 I L) ∧ (¬ x3 ≤ x1 → Q x1 I L))
set_option maxHeartbeats 4000000 in
set_option maxRecDepth 100000 in
theorem w_X5_ofInts_0 {p : Program} {l : Launch} {e : Env} {s : State} {m : MethodId} {args : Array Value} {below : List Frame} {meth : Method} {c : Code} {G : mm_G} (hcx : mm_cx c_X5_ofInts (some .long) 5 RX5 G p s m args meth c) (x0 : Int32) (x1 : Int64) (x3 : Int64) (I : mm_I) (L : mm_L) (Q : Int64 → mm_I → mm_L → Prop)  (hv : vc_X5_ofInts_0 x0 x1 x3 I L Q) {H : Heap} {locs : List Loc} (hP : mm_PW G I L H) (hD : mm_DW G I L) (hS : va_S G.2.2.2.1 s.heap H locs) {ls : Array Slot} (hl : lv_has ls 5 [(0, .int x0), (1, .long x1), (3, .long x3)]) : W p l e (headSpec w_X5_ofInts rm_X5_ofInts).room s m args below meth c H locs 0 0 (MQ below (mm_ql G Q) args s 0 0 G.2.2.2.1) (F0 m 0 ls []) := by
  obtain ⟨hx, hb, hr, hlocks, hml, hown, hg, hK, hC⟩ := id hcx
  unfold vc_X5_ofInts_0 at hv
  refine lv_iload_n hx hb d_X5_ofInts_0 rfl (lv_at hl 0 rfl) ?_
  obtain h0 | ⟨k9, hk9, he⟩ := mm_sw x0 4 10
  · have hv := hv.1 h0
    refine lv_tableOut (tgt := 88) hx hb d_X5_ofInts_1 (by omega) (by decide) ?_
    refine lv_lload_n hx hb d_X5_ofInts_88 rfl (lv_at hl 1 rfl) ?_
    refine lv_lload_n hx hb d_X5_ofInts_89 rfl (lv_at hl 2 rfl) ?_
    refine W.lcmp hx hb d_X5_ofInts_90 ?_
    refine lv_if_le (tgt := 98) hx hb d_X5_ofInts_91 (by decide) (fun hc => ?_) (fun hc => ?_)
    · have hv := hv.1 ((lg_cmp_le _ _).mp hc)
      refine lv_lload_n hx hb d_X5_ofInts_98 rfl (lv_at hl 2 rfl) ?_
      exact W.lret (v := x3) hx hb hr (fun t ht hW => ⟨⟨x3, (I, L), rfl, hv, mm_mv ht hP⟩, hS.F ht⟩) hS.2.2 d_X5_ofInts_99
    · have hv := hv.2 (fun q => hc ((lg_cmp_le _ _).mpr q))
      refine lv_lload_n hx hb d_X5_ofInts_94 rfl (lv_at hl 1 rfl) ?_
      refine lv_goto (tgt := 99) hx hb d_X5_ofInts_95 (by decide) ?_
      exact W.lret (v := x1) hx hb hr (fun t ht hW => ⟨⟨x1, (I, L), rfl, hv, mm_mv ht hP⟩, hS.F ht⟩) hS.2.2 d_X5_ofInts_99
  obtain rfl | rfl | rfl | rfl | rfl | rfl : k9 = 4 ∨ k9 = 5 ∨ k9 = 6 ∨ k9 = 7 ∨ k9 = 8 ∨ k9 = 9 := by omega
  · have he : x0 = 4 := he
    have hv := hv.2.1 he
    refine lv_tableIn (tgt := 40) hx hb d_X5_ofInts_1 (by rw [he]; decide) (by rw [he]; decide) (by rw [he]; rfl) (by decide) ?_
    refine lv_lload_n hx hb d_X5_ofInts_40 rfl (lv_at hl 1 rfl) ?_
    refine lv_lload_n hx hb d_X5_ofInts_41 rfl (lv_at hl 2 rfl) ?_
    refine lv_ladd hx hb d_X5_ofInts_42 ?_
    exact W.lret (v := (x1 + x3)) hx hb hr (fun t ht hW => ⟨⟨(x1 + x3), (I, L), rfl, hv, mm_mv ht hP⟩, hS.F ht⟩) hS.2.2 d_X5_ofInts_43
  · have he : x0 = 5 := he
    have hv := hv.2.2.1 he
    refine lv_tableIn (tgt := 44) hx hb d_X5_ofInts_1 (by rw [he]; decide) (by rw [he]; decide) (by rw [he]; rfl) (by decide) ?_
    refine lv_lload_n hx hb d_X5_ofInts_44 rfl (lv_at hl 1 rfl) ?_
    refine lv_lload_n hx hb d_X5_ofInts_45 rfl (lv_at hl 2 rfl) ?_
    refine lv_lsub hx hb d_X5_ofInts_46 ?_
    exact W.lret (v := (x1 - x3)) hx hb hr (fun t ht hW => ⟨⟨(x1 - x3), (I, L), rfl, hv, mm_mv ht hP⟩, hS.F ht⟩) hS.2.2 d_X5_ofInts_47
  · have he : x0 = 6 := he
    have hv := hv.2.2.2.1 he
    refine lv_tableIn (tgt := 48) hx hb d_X5_ofInts_1 (by rw [he]; decide) (by rw [he]; decide) (by rw [he]; rfl) (by decide) ?_
    refine lv_lload_n hx hb d_X5_ofInts_48 rfl (lv_at hl 1 rfl) ?_
    refine lv_lload_n hx hb d_X5_ofInts_49 rfl (lv_at hl 2 rfl) ?_
    refine lv_lmul hx hb d_X5_ofInts_50 ?_
    exact W.lret (v := (x1 * x3)) hx hb hr (fun t ht hW => ⟨⟨(x1 * x3), (I, L), rfl, hv, mm_mv ht hP⟩, hS.F ht⟩) hS.2.2 d_X5_ofInts_51
  · have he : x0 = 7 := he
    have hv := hv.2.2.2.2.1 he
    refine lv_tableIn (tgt := 52) hx hb d_X5_ofInts_1 (by rw [he]; decide) (by rw [he]; decide) (by rw [he]; rfl) (by decide) ?_
    refine lv_lload_n hx hb d_X5_ofInts_52 rfl (lv_at hl 1 rfl) ?_
    refine lv_lload_n hx hb d_X5_ofInts_53 rfl (lv_at hl 2 rfl) ?_
    refine W.lcmp hx hb d_X5_ofInts_54 ?_
    refine lv_if_ge (tgt := 62) hx hb d_X5_ofInts_55 (by decide) (fun hc => ?_) (fun hc => ?_)
    · have hv := hv.1 ((lg_cmp_ge _ _).mp hc)
      refine lv_lconst (v := 0) hx hb d_X5_ofInts_62 (by decide) ?_
      exact W.lret (v := 0) hx hb hr (fun t ht hW => ⟨⟨0, (I, L), rfl, hv, mm_mv ht hP⟩, hS.F ht⟩) hS.2.2 d_X5_ofInts_63
    · have hv := hv.2 (fun q => hc ((lg_cmp_ge _ _).mpr q))
      refine lv_lconst (v := 1) hx hb d_X5_ofInts_58 (by decide) ?_
      refine lv_goto (tgt := 63) hx hb d_X5_ofInts_59 (by decide) ?_
      exact W.lret (v := 1) hx hb hr (fun t ht hW => ⟨⟨1, (I, L), rfl, hv, mm_mv ht hP⟩, hS.F ht⟩) hS.2.2 d_X5_ofInts_63
  · have he : x0 = 8 := he
    have hv := hv.2.2.2.2.2.1 he
    refine lv_tableIn (tgt := 64) hx hb d_X5_ofInts_1 (by rw [he]; decide) (by rw [he]; decide) (by rw [he]; rfl) (by decide) ?_
    refine lv_lload_n hx hb d_X5_ofInts_64 rfl (lv_at hl 1 rfl) ?_
    refine lv_lload_n hx hb d_X5_ofInts_65 rfl (lv_at hl 2 rfl) ?_
    refine W.lcmp hx hb d_X5_ofInts_66 ?_
    refine lv_if_ne (tgt := 74) hx hb d_X5_ofInts_67 (by decide) (fun hc => ?_) (fun hc => ?_)
    · have hv := hv.1 (fun q => hc ((lg_cmp_eq _ _).mpr q))
      refine lv_lconst (v := 0) hx hb d_X5_ofInts_74 (by decide) ?_
      exact W.lret (v := 0) hx hb hr (fun t ht hW => ⟨⟨0, (I, L), rfl, hv, mm_mv ht hP⟩, hS.F ht⟩) hS.2.2 d_X5_ofInts_75
    · have hv := hv.2 ((lg_cmp_eq _ _).mp hc)
      refine lv_lconst (v := 1) hx hb d_X5_ofInts_70 (by decide) ?_
      refine lv_goto (tgt := 75) hx hb d_X5_ofInts_71 (by decide) ?_
      exact W.lret (v := 1) hx hb hr (fun t ht hW => ⟨⟨1, (I, L), rfl, hv, mm_mv ht hP⟩, hS.F ht⟩) hS.2.2 d_X5_ofInts_75
  · have he : x0 = 9 := he
    have hv := hv.2.2.2.2.2.2 he
    refine lv_tableIn (tgt := 76) hx hb d_X5_ofInts_1 (by rw [he]; decide) (by rw [he]; decide) (by rw [he]; rfl) (by decide) ?_
    refine lv_lload_n hx hb d_X5_ofInts_76 rfl (lv_at hl 1 rfl) ?_
    refine lv_lload_n hx hb d_X5_ofInts_77 rfl (lv_at hl 2 rfl) ?_
    refine W.lcmp hx hb d_X5_ofInts_78 ?_
    refine lv_if_ge (tgt := 86) hx hb d_X5_ofInts_79 (by decide) (fun hc => ?_) (fun hc => ?_)
    · have hv := hv.1 ((lg_cmp_ge _ _).mp hc)
      refine lv_lload_n hx hb d_X5_ofInts_86 rfl (lv_at hl 2 rfl) ?_
      exact W.lret (v := x3) hx hb hr (fun t ht hW => ⟨⟨x3, (I, L), rfl, hv, mm_mv ht hP⟩, hS.F ht⟩) hS.2.2 d_X5_ofInts_87
    · have hv := hv.2 (fun q => hc ((lg_cmp_ge _ _).mpr q))
      refine lv_lload_n hx hb d_X5_ofInts_82 rfl (lv_at hl 1 rfl) ?_
      refine lv_goto (tgt := 87) hx hb d_X5_ofInts_83 (by decide) ?_
      exact W.lret (v := x1) hx hb hr (fun t ht hW => ⟨⟨x1, (I, L), rfl, hv, mm_mv ht hP⟩, hS.F ht⟩) hS.2.2 d_X5_ofInts_87
abbrev vc_X5_ofInts (x0 : Int32) (x1 : Int64) (x3 : Int64) (I : mm_I) (L : mm_L) (Q : Int64 → mm_I → mm_L → Prop) : Prop := vc_X5_ofInts_0 x0 x1 x3 I L Q
set_option maxHeartbeats 4000000 in
set_option maxRecDepth 100000 in
theorem m_X5_ofInts (l : Launch) (G : mm_G) (x0 : Int32) (x1 : Int64) (x3 : Int64) (I : mm_I) (L : mm_L) (Q : Int64 → mm_I → mm_L → Prop)  (hv : vc_X5_ofInts x0 x1 x3 I L Q) : Met l y_X5_ofInts w_X5_ofInts rm_X5_ofInts (mm_pre G [.int x0, .long x1, .long x3] I L) (mm_ql G Q) 0 0 G.2.2.2.1 := by
  refine Met.ofW (cc := c_X5_ofInts) (maxL := 5) (ret := (some .long)) (by decide) rfl ?_
  intro p e s m args below meth c s₁ B hml hw
  obtain ⟨rfl, hP, hK, hD, hC⟩ := hw
  have hts := atoms_spec (ws := w_X5_ofInts) B.pre
  have hown : s.vm.findClass RX5 = some m.cls := findClass_of_methodNamed B.named
  have hl := lv_entry ([.int x0, .long x1, .long x3]) (n := 5) (Nat.le_of_ble_eq_true rfl)
  rw [lg_entry_eq]
  generalize (lg_sl ([.int x0, .long x1, .long x3]) ++ List.replicate (5 - (lg_sl ([.int x0, .long x1, .long x3])).length) Slot.unset).toArray = ls at hl ⊢
  have hl : lv_has ls 5 [(0, .int x0), (1, .long x1), (3, .long x3)] := hl
  exact w_X5_ofInts_0 ⟨B.exec, B.bytes, B.returns, B.notSynchronized, hml, hown, fun w h => hts w (List.mem_cons_of_mem _ h), hK, hC⟩ x0 x1 x3 I L Q  hv hP hD va_S.rf hl
abbrev rm_X5_ofTwo : Room := { frames := 1, cells := 0, slots := 0, locals := 24 }
def vc_X5_ofTwo_0 (x0 : Int32) (x1 : Int64) (x3 : Int64) (I : mm_I) (L : mm_L) (Q : Int64 → mm_I → mm_L → Prop) : Prop :=
  vc_X5_isInt x1 I L (fun r235 I233 L234 => (¬ r235 = 0 → vc_X5_isInt x3 I233 L234 (fun r238 I236 L237 => (¬ r238 = 0 → vc_X5_ofInts x0 x1 x3 I236 L237 (fun r241 I239 L240 => vc_X5_isInt r241 I239 L240 (fun r244 I242 L243 => (r244 = 0 → Q 1000000000104 I242 L243) ∧ (¬ r244 = 0 → Q r241 I242 L243)))) ∧ (r238 = 0 → vc_X5_faultOf x3 I236 L237 (fun r247 I245 L246 => Q r247 I245 L246)))) ∧ (r235 = 0 → vc_X5_faultOf x1 I233 L234 (fun r250 I248 L249 => Q r250 I248 L249)))
set_option maxHeartbeats 4000000 in
set_option maxRecDepth 100000 in
theorem w_X5_ofTwo_0 {p : Program} {l : Launch} {e : Env} {s : State} {m : MethodId} {args : Array Value} {below : List Frame} {meth : Method} {c : Code} {G : mm_G} (hcx : mm_cx c_X5_ofTwo (some .long) 7 RX5 G p s m args meth c) (x0 : Int32) (x1 : Int64) (x3 : Int64) (I : mm_I) (L : mm_L) (Q : Int64 → mm_I → mm_L → Prop)  (hv : vc_X5_ofTwo_0 x0 x1 x3 I L Q) {H : Heap} {locs : List Loc} (hP : mm_PW G I L H) (hD : mm_DW G I L) (hS : va_S G.2.2.2.1 s.heap H locs) {ls : Array Slot} (hl : lv_has ls 7 [(0, .int x0), (1, .long x1), (3, .long x3)]) : W p l e (headSpec w_X5_ofTwo rm_X5_ofTwo).room s m args below meth c H locs 0 0 (MQ below (mm_ql G Q) args s 0 0 G.2.2.2.1) (F0 m 0 ls []) := by
  obtain ⟨hx, hb, hr, hlocks, hml, hown, hg, hK, hC⟩ := id hcx
  unfold vc_X5_ofTwo_0 at hv
  refine lv_lload_n hx hb d_X5_ofTwo_0 rfl (lv_at hl 1 rfl) ?_
  refine va_calli (va_runS (As := [.long x1]) (rest := []) ⟨hx, hb, hml, hown, hg⟩ (m_X5_isInt l G x1 I L _  hv) (va_cwS 1 hg (mm_gS k_75 k_62 k_63 kc_X5_isInt) rfl rfl rfl (by decide +kernel) ⟨Nat.le_of_ble_eq_true rfl, Nat.le_of_ble_eq_true rfl⟩) ⟨mm_blind, fun U hU hW => mm_call hP hK hD hC hU hS hW⟩ rfl rfl hl.1 rfl (lv_room (Nat.le_of_ble_eq_true rfl)) d_X5_ofTwo_1 ⟨Nat.zero_le _, Nat.zero_le _⟩) hS (fun q _ h => h) (fun q h => h) (fun r235 u t H locs ht hvm hv hP hz1 hk1 hS => ?_)
  obtain ⟨I233, L234⟩ := u
  dsimp only at hv hP
  rw [ht] at hP
  have hD : mm_DW G I233 L234 := mm_D_any hD
  refine lv_if_ne (tgt := 12) hx hb d_X5_ofTwo_4 (by decide) (fun hc => ?_) (fun hc => ?_)
  · have hv := hv.1 hc
    refine lv_lload_n hx hb d_X5_ofTwo_12 rfl (lv_at hl 2 rfl) ?_
    refine va_calli (va_runS (As := [.long x3]) (rest := []) ⟨hx, hb, hml, hown, hg⟩ (m_X5_isInt l G x3 I233 L234 _  hv) (va_cwS 1 hg (mm_gS k_75 k_62 k_63 kc_X5_isInt) rfl rfl rfl (by decide +kernel) ⟨Nat.le_of_ble_eq_true rfl, Nat.le_of_ble_eq_true rfl⟩) ⟨mm_blind, fun U hU hW => mm_call hP hK hD hC hU hS hW⟩ rfl rfl hl.1 rfl (lv_room (Nat.le_of_ble_eq_true rfl)) d_X5_ofTwo_13 ⟨Nat.zero_le _, Nat.zero_le _⟩) hS (fun q _ h => h) (fun q h => h) (fun r238 u t H locs ht hvm hv hP hz1 hk1 hS => ?_)
    obtain ⟨I236, L237⟩ := u
    dsimp only at hv hP
    rw [ht] at hP
    have hD : mm_DW G I236 L237 := mm_D_any hD
    refine lv_if_ne (tgt := 24) hx hb d_X5_ofTwo_16 (by decide) (fun hc => ?_) (fun hc => ?_)
    · have hv := hv.1 hc
      refine lv_iload_n hx hb d_X5_ofTwo_24 rfl (lv_at hl 0 rfl) ?_
      refine lv_lload_n hx hb d_X5_ofTwo_25 rfl (lv_at hl 1 rfl) ?_
      refine lv_lload_n hx hb d_X5_ofTwo_26 rfl (lv_at hl 2 rfl) ?_
      refine va_calll (va_runS (As := [.int x0, .long x1, .long x3]) (rest := []) ⟨hx, hb, hml, hown, hg⟩ (m_X5_ofInts l G x0 x1 x3 I236 L237 _  hv) (va_cwS 3 hg (mm_gS k_88 k_89 k_63 kc_X5_ofInts) rfl rfl rfl (by decide +kernel) ⟨Nat.le_of_ble_eq_true rfl, Nat.le_of_ble_eq_true rfl⟩) ⟨mm_blind, fun U hU hW => mm_call hP hK hD hC hU hS hW⟩ rfl rfl hl.1 rfl (lv_room (Nat.le_of_ble_eq_true rfl)) d_X5_ofTwo_27 ⟨Nat.zero_le _, Nat.zero_le _⟩) hS (fun q _ h => h) (fun q h => h) (fun r241 u t H locs ht hvm hv hP hz1 hk1 hS => ?_)
      obtain ⟨I239, L240⟩ := u
      dsimp only at hv hP
      rw [ht] at hP
      have hD : mm_DW G I239 L240 := mm_D_any hD
      refine lv_lstore (lv' := [(5, .long r241), (0, .int x0), (1, .long x1), (3, .long x3)]) hx hb d_X5_ofTwo_30 hl (by decide) rfl (fun ls hl => ?_)
      refine lv_lload hx hb d_X5_ofTwo_32 (lv_at hl 0 rfl) ?_
      refine va_calli (va_runS (As := [.long r241]) (rest := []) ⟨hx, hb, hml, hown, hg⟩ (m_X5_isInt l G r241 I239 L240 _  hv) (va_cwS 1 hg (mm_gS k_75 k_62 k_63 kc_X5_isInt) rfl rfl rfl (by decide +kernel) ⟨Nat.le_of_ble_eq_true rfl, Nat.le_of_ble_eq_true rfl⟩) ⟨mm_blind, fun U hU hW => mm_call hP hK hD hC hU hS hW⟩ rfl rfl hl.1 rfl (lv_room (Nat.le_of_ble_eq_true rfl)) d_X5_ofTwo_34 ⟨Nat.zero_le _, Nat.zero_le _⟩) hS (fun q _ h => h) (fun q h => h) (fun r244 u t H locs ht hvm hv hP hz1 hk1 hS => ?_)
      obtain ⟨I242, L243⟩ := u
      dsimp only at hv hP
      rw [ht] at hP
      have hD : mm_DW G I242 L243 := mm_D_any hD
      refine lv_if_eq (tgt := 45) hx hb d_X5_ofTwo_37 (by decide) (fun hc => ?_) (fun hc => ?_)
      · have hv := hv.1 hc
        refine lv_ldc2 (v := 1000000000104) hx hb hown (hg _ k_74) d_X5_ofTwo_45 ?_
        exact W.lret (v := 1000000000104) hx hb hr (fun t ht hW => ⟨⟨1000000000104, (I242, L243), rfl, hv, mm_mv ht hP⟩, hS.F ht⟩) hS.2.2 d_X5_ofTwo_48
      · have hv := hv.2 hc
        refine lv_lload hx hb d_X5_ofTwo_40 (lv_at hl 0 rfl) ?_
        refine lv_goto (tgt := 48) hx hb d_X5_ofTwo_42 (by decide) ?_
        exact W.lret (v := r241) hx hb hr (fun t ht hW => ⟨⟨r241, (I242, L243), rfl, hv, mm_mv ht hP⟩, hS.F ht⟩) hS.2.2 d_X5_ofTwo_48
    · have hv := hv.2 hc
      refine lv_lload_n hx hb d_X5_ofTwo_19 rfl (lv_at hl 2 rfl) ?_
      refine va_calll (va_runS (As := [.long x3]) (rest := []) ⟨hx, hb, hml, hown, hg⟩ (m_X5_faultOf l G x3 I236 L237 _  hv) (va_cwS 1 hg (mm_gS k_79 k_80 k_63 kc_X5_faultOf) rfl rfl rfl (by decide +kernel) ⟨Nat.le_of_ble_eq_true rfl, Nat.le_of_ble_eq_true rfl⟩) ⟨mm_blind, fun U hU hW => mm_call hP hK hD hC hU hS hW⟩ rfl rfl hl.1 rfl (lv_room (Nat.le_of_ble_eq_true rfl)) d_X5_ofTwo_20 ⟨Nat.zero_le _, Nat.zero_le _⟩) hS (fun q _ h => h) (fun q h => h) (fun r247 u t H locs ht hvm hv hP hz1 hk1 hS => ?_)
      obtain ⟨I245, L246⟩ := u
      dsimp only at hv hP
      rw [ht] at hP
      have hD : mm_DW G I245 L246 := mm_D_any hD
      exact W.lret (v := r247) hx hb hr (fun t ht hW => ⟨⟨r247, (I245, L246), rfl, hv, mm_mv ht hP⟩, hS.F ht⟩) hS.2.2 d_X5_ofTwo_23
  · have hv := hv.2 hc
    refine lv_lload_n hx hb d_X5_ofTwo_7 rfl (lv_at hl 1 rfl) ?_
    refine va_calll (va_runS (As := [.long x1]) (rest := []) ⟨hx, hb, hml, hown, hg⟩ (m_X5_faultOf l G x1 I233 L234 _  hv) (va_cwS 1 hg (mm_gS k_79 k_80 k_63 kc_X5_faultOf) rfl rfl rfl (by decide +kernel) ⟨Nat.le_of_ble_eq_true rfl, Nat.le_of_ble_eq_true rfl⟩) ⟨mm_blind, fun U hU hW => mm_call hP hK hD hC hU hS hW⟩ rfl rfl hl.1 rfl (lv_room (Nat.le_of_ble_eq_true rfl)) d_X5_ofTwo_8 ⟨Nat.zero_le _, Nat.zero_le _⟩) hS (fun q _ h => h) (fun q h => h) (fun r250 u t H locs ht hvm hv hP hz1 hk1 hS => ?_)
    obtain ⟨I248, L249⟩ := u
    dsimp only at hv hP
    rw [ht] at hP
    have hD : mm_DW G I248 L249 := mm_D_any hD
    exact W.lret (v := r250) hx hb hr (fun t ht hW => ⟨⟨r250, (I248, L249), rfl, hv, mm_mv ht hP⟩, hS.F ht⟩) hS.2.2 d_X5_ofTwo_11
abbrev vc_X5_ofTwo (x0 : Int32) (x1 : Int64) (x3 : Int64) (I : mm_I) (L : mm_L) (Q : Int64 → mm_I → mm_L → Prop) : Prop := vc_X5_ofTwo_0 x0 x1 x3 I L Q
set_option maxHeartbeats 4000000 in
set_option maxRecDepth 100000 in
theorem m_X5_ofTwo (l : Launch) (G : mm_G) (x0 : Int32) (x1 : Int64) (x3 : Int64) (I : mm_I) (L : mm_L) (Q : Int64 → mm_I → mm_L → Prop)  (hv : vc_X5_ofTwo x0 x1 x3 I L Q) : Met l y_X5_ofTwo w_X5_ofTwo rm_X5_ofTwo (mm_pre G [.int x0, .long x1, .long x3] I L) (mm_ql G Q) 0 0 G.2.2.2.1 := by
  refine Met.ofW (cc := c_X5_ofTwo) (maxL := 7) (ret := (some .long)) (by decide) rfl ?_
  intro p e s m args below meth c s₁ B hml hw
  obtain ⟨rfl, hP, hK, hD, hC⟩ := hw
  have hts := atoms_spec (ws := w_X5_ofTwo) B.pre
  have hown : s.vm.findClass RX5 = some m.cls := findClass_of_methodNamed B.named
  have hl := lv_entry ([.int x0, .long x1, .long x3]) (n := 7) (Nat.le_of_ble_eq_true rfl)
  rw [lg_entry_eq]
  generalize (lg_sl ([.int x0, .long x1, .long x3]) ++ List.replicate (7 - (lg_sl ([.int x0, .long x1, .long x3])).length) Slot.unset).toArray = ls at hl ⊢
  have hl : lv_has ls 7 [(0, .int x0), (1, .long x1), (3, .long x3)] := hl
  exact w_X5_ofTwo_0 ⟨B.exec, B.bytes, B.returns, B.notSynchronized, hml, hown, fun w h => hts w (List.mem_cons_of_mem _ h), hK, hC⟩ x0 x1 x3 I L Q  hv hP hD va_S.rf hl
