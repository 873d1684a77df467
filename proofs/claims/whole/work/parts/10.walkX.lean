abbrev rm_X6_within : Room := { frames := 0, cells := 0, slots := 0, locals := 0 }
def vc_X6_within_0 (x0 : Int32) (x1 : Int32) (I : mm_I) (L : mm_L) (Q : Int32 → mm_I → mm_L → Prop) : Prop :=
  (x0 < 0 → Q 0 I L) ∧ (¬ x0 < 0 → (x1 ≤ x0 → Q 0 I L) ∧ (¬ x1 ≤ x0 → Q 1 I L))
set_option maxHeartbeats 4000000 in
set_option maxRecDepth 100000 in
theorem w_X6_within_0 {p : Program} {l : Launch} {e : Env} {s : State} {m : MethodId} {args : Array Value} {below : List Frame} {meth : Method} {c : Code} {G : mm_G} (hcx : mm_cx c_X6_within (some .boolean) 2 RX6 G p s m args meth c) (x0 : Int32) (x1 : Int32) (I : mm_I) (L : mm_L) (Q : Int32 → mm_I → mm_L → Prop)  (hv : vc_X6_within_0 x0 x1 I L Q) {H : Heap} {locs : List Loc} (hP : mm_PW G I L H) (hD : mm_DW G I L) (hS : va_S G.2.2.2.1 s.heap H locs) {ls : Array Slot} (hl : lv_has ls 2 [(0, .int x0), (1, .int x1)]) : W p l e (headSpec w_X6_within rm_X6_within).room s m args below meth c H locs 0 0 (MQ below (mm_qi G Q) args s 0 0 G.2.2.2.1) (F0 m 0 ls []) := by
  obtain ⟨hx, hb, hr, hlocks, hml, hown, hg, hK, hC⟩ := id hcx
  unfold vc_X6_within_0 at hv
  refine lv_iload_n hx hb d_X6_within_0 rfl (lv_at hl 0 rfl) ?_
  refine lv_if_lt (tgt := 13) hx hb d_X6_within_1 (by decide) (fun hc => ?_) (fun hc => ?_)
  · have hv := hv.1 hc
    refine lv_iconst (v := 0) hx hb d_X6_within_13 (by decide) ?_
    exact W.zret (v := 0) (ty := .boolean) hx hb hr (by decide) (fun t ht hW => ⟨⟨0, (I, L), rfl, hv, mm_mv ht hP⟩, hS.F ht⟩) hS.2.2 d_X6_within_14
  · have hv := hv.2 hc
    refine lv_iload_n hx hb d_X6_within_4 rfl (lv_at hl 0 rfl) ?_
    refine lv_iload_n hx hb d_X6_within_5 rfl (lv_at hl 1 rfl) ?_
    refine lv_icmp_ge (tgt := 13) hx hb d_X6_within_6 (by decide) (fun hc => ?_) (fun hc => ?_)
    · have hv := hv.1 hc
      refine lv_iconst (v := 0) hx hb d_X6_within_13 (by decide) ?_
      exact W.zret (v := 0) (ty := .boolean) hx hb hr (by decide) (fun t ht hW => ⟨⟨0, (I, L), rfl, hv, mm_mv ht hP⟩, hS.F ht⟩) hS.2.2 d_X6_within_14
    · have hv := hv.2 hc
      refine lv_iconst (v := 1) hx hb d_X6_within_9 (by decide) ?_
      refine lv_goto (tgt := 14) hx hb d_X6_within_10 (by decide) ?_
      exact W.zret (v := 1) (ty := .boolean) hx hb hr (by decide) (fun t ht hW => ⟨⟨1, (I, L), rfl, hv, mm_mv ht hP⟩, hS.F ht⟩) hS.2.2 d_X6_within_14
abbrev vc_X6_within (x0 : Int32) (x1 : Int32) (I : mm_I) (L : mm_L) (Q : Int32 → mm_I → mm_L → Prop) : Prop := vc_X6_within_0 x0 x1 I L Q
set_option maxHeartbeats 4000000 in
set_option maxRecDepth 100000 in
theorem m_X6_within (l : Launch) (G : mm_G) (x0 : Int32) (x1 : Int32) (I : mm_I) (L : mm_L) (Q : Int32 → mm_I → mm_L → Prop)  (hv : vc_X6_within x0 x1 I L Q) : Met l y_X6_within w_X6_within rm_X6_within (mm_pre G [.int x0, .int x1] I L) (mm_qi G Q) 0 0 G.2.2.2.1 := by
  refine Met.ofW (cc := c_X6_within) (maxL := 2) (ret := (some .boolean)) (by decide) rfl ?_
  intro p e s m args below meth c s₁ B hml hw
  obtain ⟨rfl, hP, hK, hD, hC⟩ := hw
  have hts := atoms_spec (ws := w_X6_within) B.pre
  have hown : s.vm.findClass RX6 = some m.cls := findClass_of_methodNamed B.named
  have hl := lv_entry ([.int x0, .int x1]) (n := 2) (Nat.le_of_ble_eq_true rfl)
  rw [lg_entry_eq]
  generalize (lg_sl ([.int x0, .int x1]) ++ List.replicate (2 - (lg_sl ([.int x0, .int x1])).length) Slot.unset).toArray = ls at hl ⊢
  have hl : lv_has ls 2 [(0, .int x0), (1, .int x1)] := hl
  exact w_X6_within_0 ⟨B.exec, B.bytes, B.returns, B.notSynchronized, hml, hown, fun w h => hts w (List.mem_cons_of_mem _ h), hK, hC⟩ x0 x1 I L Q  hv hP hD va_S.rf hl
abbrev rm_X0_has : Room := { frames := 1, cells := 0, slots := 0, locals := 21 }
def vc_X0_has_0 (x1 : Int32) (I : mm_I) (L : mm_L) (Q : Int32 → mm_I → mm_L → Prop) : Prop :=
  vc_X6_within x1 (I 2 7) I L (fun r3 I1 L2 => zb r3 ∧ Q r3 I1 L2)
set_option maxHeartbeats 4000000 in
set_option maxRecDepth 100000 in
theorem w_X0_has_0 {p : Program} {l : Launch} {e : Env} {s : State} {m : MethodId} {args : Array Value} {below : List Frame} {meth : Method} {c : Code} {G : mm_G} (hcx : mm_cx c_X0_has (some .boolean) 2 RX0 G p s m args meth c) (x1 : Int32) (I : mm_I) (L : mm_L) (Q : Int32 → mm_I → mm_L → Prop)  (hv : vc_X0_has_0 x1 I L Q) {H : Heap} {locs : List Loc} (hP : mm_PW G I L H) (hD : mm_DW G I L) (hS : va_S G.2.2.2.1 s.heap H locs) {ls : Array Slot} (hl : lv_has ls 2 [(0, .ref (G.2.2.1 2)), (1, .int x1)]) : W p l e (headSpec w_X0_has rm_X0_has).room s m args below meth c H locs 0 0 (MQ below (mm_qi G Q) args s 0 0 G.2.2.2.1) (F0 m 0 ls []) := by
  obtain ⟨hx, hb, hr, hlocks, hml, hown, hg, hK, hC⟩ := id hcx
  unfold vc_X0_has_0 at hv
  refine lv_iload_n hx hb d_X0_has_0 rfl (lv_at hl 1 rfl) ?_
  refine lv_aload_n hx hb d_X0_has_1 rfl (lv_at hl 0 rfl) ?_
  refine mm_gi (D := G.1) (C := RX0) (T := TX0) (N0 := 8) hx hb hg in_X0 hown hK hP (t := 2) (by decide) rfl rfl 7 (by decide) (hg _ k_0) (fun _ h9 => h9) rfl d_X0_has_2 ?_
  refine va_calli (va_runSN (As := [.int x1, .int (I 2 7)]) (rest := []) ⟨hx, hb, hml, hown, hg⟩ (m_X6_within l G x1 (I 2 7) I L _  hv) ⟨va_cnB 2 hg (mm_g1 kc_X6_within mm_GW_self) rfl rfl rfl (nw_4 hC.2.2) (hg _ k_1) (by decide +kernel) ⟨Nat.le_of_ble_eq_true rfl, Nat.le_of_ble_eq_true rfl⟩, hg _ k_2, trivial⟩ ⟨mm_blind, fun U hU hW => mm_call hP hK hD hC hU hS hW⟩ rfl rfl hl.1 rfl (lv_room (Nat.le_of_ble_eq_true rfl)) d_X0_has_5 ⟨Nat.zero_le _, Nat.zero_le _⟩) hS (fun q _ h => h) (fun q h => h) (fun r3 u t H locs ht hvm hv hP hz1 hk1 hS => ?_)
  obtain ⟨I1, L2⟩ := u
  dsimp only at hv hP
  rw [ht] at hP
  have hD : mm_DW G I1 L2 := mm_D_any hD
  exact W.zret (v := r3) (ty := .boolean) hx hb hr (zb_n hv.1) (fun t ht hW => ⟨⟨r3, (I1, L2), rfl, hv.2, mm_mv ht hP⟩, hS.F ht⟩) hS.2.2 d_X0_has_8
abbrev vc_X0_has (x1 : Int32) (I : mm_I) (L : mm_L) (Q : Int32 → mm_I → mm_L → Prop) : Prop := vc_X0_has_0 x1 I L Q
set_option maxHeartbeats 4000000 in
set_option maxRecDepth 100000 in
theorem m_X0_has (l : Launch) (G : mm_G) (x1 : Int32) (I : mm_I) (L : mm_L) (Q : Int32 → mm_I → mm_L → Prop)  (hv : vc_X0_has x1 I L Q) : Met l y_X0_has w_X0_has rm_X0_has (mm_pre G [.ref (G.2.2.1 2), .int x1] I L) (mm_qi G Q) 0 0 G.2.2.2.1 := by
  refine Met.ofW (cc := c_X0_has) (maxL := 2) (ret := (some .boolean)) (by decide) rfl ?_
  intro p e s m args below meth c s₁ B hml hw
  obtain ⟨rfl, hP, hK, hD, hC⟩ := hw
  have hts := atoms_spec (ws := w_X0_has) B.pre
  have hown : s.vm.findClass RX0 = some m.cls := findClass_of_methodNamed B.named
  have hl := lv_entry ([.ref (G.2.2.1 2), .int x1]) (n := 2) (Nat.le_of_ble_eq_true rfl)
  rw [lg_entry_eq]
  generalize (lg_sl ([.ref (G.2.2.1 2), .int x1]) ++ List.replicate (2 - (lg_sl ([.ref (G.2.2.1 2), .int x1])).length) Slot.unset).toArray = ls at hl ⊢
  have hl : lv_has ls 2 [(0, .ref (G.2.2.1 2)), (1, .int x1)] := hl
  exact w_X0_has_0 ⟨B.exec, B.bytes, B.returns, B.notSynchronized, hml, hown, fun w h => hts w (List.mem_cons_of_mem _ h), hK, hC⟩ x1 I L Q  hv hP hD va_S.rf hl
abbrev rm_X0_firstFits : Room := { frames := 2, cells := 0, slots := 0, locals := 42 }
def vc_X0_firstFits_145 (x2 : Int32) (I : mm_I) (L : mm_L) (Q : Int32 → mm_I → mm_L → Prop) : Prop :=
  vc_X0_has x2 I L (fun r21 I19 L20 => zb r21 ∧ Q r21 I19 L20)
def vc_X0_firstFits_0 (x1 : Int32) (x2 : Int32) (I : mm_I) (L : mm_L) (Q : Int32 → mm_I → mm_L → Prop) : Prop :=
  ((x1.toInt < 0 ∨ 20 ≤ x1.toInt) → vc_X0_firstFits_145 x2 I L Q) ∧ (x1 = 0 → Q 1 I L) ∧ (x1 = 1 → vc_X6_within x2 8 I L (fun r6 I4 L5 => zb r6 ∧ Q r6 I4 L5)) ∧ (x1 = 2 → vc_X6_within x2 8 I L (fun r9 I7 L8 => zb r9 ∧ Q r9 I7 L8)) ∧ (x1 = 3 → vc_X6_within x2 2 I L (fun r12 I10 L11 => zb r12 ∧ Q r12 I10 L11)) ∧ (x1 = 4 → vc_X0_firstFits_145 x2 I L Q) ∧ (x1 = 5 → vc_X0_firstFits_145 x2 I L Q) ∧ (x1 = 6 → vc_X0_firstFits_145 x2 I L Q) ∧ (x1 = 7 → vc_X0_firstFits_145 x2 I L Q) ∧ (x1 = 8 → vc_X0_firstFits_145 x2 I L Q) ∧ (x1 = 9 → vc_X0_firstFits_145 x2 I L Q) ∧ (x1 = 10 → vc_X0_firstFits_145 x2 I L Q) ∧ (x1 = 11 → vc_X0_firstFits_145 x2 I L Q) ∧ (x1 = 12 → vc_X0_firstFits_145 x2 I L Q) ∧ (x1 = 13 → vc_X0_firstFits_145 x2 I L Q) ∧ (x1 = 14 → vc_X0_firstFits_145 x2 I L Q) ∧ (x1 = 15 → vc_X0_firstFits_145 x2 I L Q) ∧ (x1 = 16 → Q 1 I L) ∧ (x1 = 17 → (x2 = (-1) → Q 1 I L) ∧ (¬ x2 = (-1) → vc_X0_has x2 I L (fun r15 I13 L14 => (r15 = 0 → Q 0 I13 L14) ∧ (¬ r15 = 0 → Q 1 I13 L14)))) ∧ (x1 = 18 → vc_X0_firstFits_145 x2 I L Q) ∧ (x1 = 19 → vc_X6_within x2 2 I L (fun r18 I16 L17 => zb r18 ∧ Q r18 I16 L17))
set_option maxHeartbeats 4000000 in
set_option maxRecDepth 100000 in
theorem w_X0_firstFits_145 {p : Program} {l : Launch} {e : Env} {s : State} {m : MethodId} {args : Array Value} {below : List Frame} {meth : Method} {c : Code} {G : mm_G} (hcx : mm_cx c_X0_firstFits (some .boolean) 3 RX0 G p s m args meth c) (x2 : Int32) (I : mm_I) (L : mm_L) (Q : Int32 → mm_I → mm_L → Prop)  (hv : vc_X0_firstFits_145 x2 I L Q) {H : Heap} {locs : List Loc} (hP : mm_PW G I L H) (hD : mm_DW G I L) (hS : va_S G.2.2.2.1 s.heap H locs) {ls : Array Slot} (hl : lv_has ls 3 [(0, .ref (G.2.2.1 2)), (2, .int x2)]) : W p l e (headSpec w_X0_firstFits rm_X0_firstFits).room s m args below meth c H locs 0 0 (MQ below (mm_qi G Q) args s 0 0 G.2.2.2.1) (F0 m 145 ls []) := by
  obtain ⟨hx, hb, hr, hlocks, hml, hown, hg, hK, hC⟩ := id hcx
  unfold vc_X0_firstFits_145 at hv
  refine lv_aload_n hx hb d_X0_firstFits_145 rfl (lv_at hl 0 rfl) ?_
  refine lv_iload_n hx hb d_X0_firstFits_146 rfl (lv_at hl 1 rfl) ?_
  refine va_calli (va_runV (As := [.int x2]) (rest := []) ⟨hx, hb, hml, hown, hg⟩ (m_X0_has l G x2 I L _  hv) (cwV 1 hg (mm_gV k_3 k_4 k_5 k_6 kc_X0_has) rfl rfl rfl (by decide +kernel) ⟨Nat.le_of_ble_eq_true rfl, Nat.le_of_ble_eq_true rfl⟩) ⟨mm_blind, mm_recv hK hP (t := 2) (by decide) rfl rfl, fun U hU hW => mm_call hP hK hD hC hU hS hW⟩ rfl rfl hl.1 rfl (lv_room (Nat.le_of_ble_eq_true rfl)) d_X0_firstFits_147 ⟨Nat.zero_le _, Nat.zero_le _⟩) hS (fun q _ h => h) (fun q h => h) (fun r21 u t H locs ht hvm hv hP hz1 hk1 hS => ?_)
  obtain ⟨I19, L20⟩ := u
  dsimp only at hv hP
  rw [ht] at hP
  have hD : mm_DW G I19 L20 := mm_D_any hD
  exact W.zret (v := r21) (ty := .boolean) hx hb hr (zb_n hv.1) (fun t ht hW => ⟨⟨r21, (I19, L20), rfl, hv.2, mm_mv ht hP⟩, hS.F ht⟩) hS.2.2 d_X0_firstFits_150
set_option maxHeartbeats 4000000 in
set_option maxRecDepth 100000 in
theorem w_X0_firstFits_0 {p : Program} {l : Launch} {e : Env} {s : State} {m : MethodId} {args : Array Value} {below : List Frame} {meth : Method} {c : Code} {G : mm_G} (hcx : mm_cx c_X0_firstFits (some .boolean) 3 RX0 G p s m args meth c) (x1 : Int32) (x2 : Int32) (I : mm_I) (L : mm_L) (Q : Int32 → mm_I → mm_L → Prop)  (hv : vc_X0_firstFits_0 x1 x2 I L Q) {H : Heap} {locs : List Loc} (hP : mm_PW G I L H) (hD : mm_DW G I L) (hS : va_S G.2.2.2.1 s.heap H locs) {ls : Array Slot} (hl : lv_has ls 3 [(0, .ref (G.2.2.1 2)), (1, .int x1), (2, .int x2)]) : W p l e (headSpec w_X0_firstFits rm_X0_firstFits).room s m args below meth c H locs 0 0 (MQ below (mm_qi G Q) args s 0 0 G.2.2.2.1) (F0 m 0 ls []) := by
  obtain ⟨hx, hb, hr, hlocks, hml, hown, hg, hK, hC⟩ := id hcx
  unfold vc_X0_firstFits_0 at hv
  refine lv_iload_n hx hb d_X0_firstFits_0 rfl (lv_at hl 1 rfl) ?_
  obtain h0 | ⟨k9, hk9, he⟩ := mm_sw x1 0 20
  · have hv := hv.1 h0
    refine lv_tableOut (tgt := 145) hx hb d_X0_firstFits_1 (by omega) (by decide) ?_
    exact w_X0_firstFits_145 hcx x2 I L Q  hv hP hD hS (lv_sub hl [0, 2] rfl)
  obtain rfl | rfl | rfl | rfl | rfl | rfl | rfl | rfl | rfl | rfl | rfl | rfl | rfl | rfl | rfl | rfl | rfl | rfl | rfl | rfl : k9 = 0 ∨ k9 = 1 ∨ k9 = 2 ∨ k9 = 3 ∨ k9 = 4 ∨ k9 = 5 ∨ k9 = 6 ∨ k9 = 7 ∨ k9 = 8 ∨ k9 = 9 ∨ k9 = 10 ∨ k9 = 11 ∨ k9 = 12 ∨ k9 = 13 ∨ k9 = 14 ∨ k9 = 15 ∨ k9 = 16 ∨ k9 = 17 ∨ k9 = 18 ∨ k9 = 19 := by omega
  · have he : x1 = 0 := he
    have hv := hv.2.1 he
    refine lv_tableIn (tgt := 96) hx hb d_X0_firstFits_1 (by rw [he]; decide) (by rw [he]; decide) (by rw [he]; rfl) (by decide) ?_
    refine lv_iconst (v := 1) hx hb d_X0_firstFits_96 (by decide) ?_
    exact W.zret (v := 1) (ty := .boolean) hx hb hr (by decide) (fun t ht hW => ⟨⟨1, (I, L), rfl, hv, mm_mv ht hP⟩, hS.F ht⟩) hS.2.2 d_X0_firstFits_97
  · have he : x1 = 1 := he
    have hv := hv.2.2.1 he
    refine lv_tableIn (tgt := 100) hx hb d_X0_firstFits_1 (by rw [he]; decide) (by rw [he]; decide) (by rw [he]; rfl) (by decide) ?_
    refine lv_iload_n hx hb d_X0_firstFits_100 rfl (lv_at hl 2 rfl) ?_
    refine lv_bipush (v := 8) hx hb d_X0_firstFits_101 (by decide) ?_
    refine va_calli (va_runSN (As := [.int x2, .int 8]) (rest := []) ⟨hx, hb, hml, hown, hg⟩ (m_X6_within l G x2 8 I L _  hv) ⟨va_cnB 2 hg (mm_g1 kc_X6_within mm_GW_self) rfl rfl rfl (nw_4 hC.2.2) (hg _ k_1) (by decide +kernel) ⟨Nat.le_of_ble_eq_true rfl, Nat.le_of_ble_eq_true rfl⟩, hg _ k_2, trivial⟩ ⟨mm_blind, fun U hU hW => mm_call hP hK hD hC hU hS hW⟩ rfl rfl hl.1 rfl (lv_room (Nat.le_of_ble_eq_true rfl)) d_X0_firstFits_103 ⟨Nat.zero_le _, Nat.zero_le _⟩) hS (fun q _ h => h) (fun q h => h) (fun r6 u t H locs ht hvm hv hP hz1 hk1 hS => ?_)
    obtain ⟨I4, L5⟩ := u
    dsimp only at hv hP
    rw [ht] at hP
    have hD : mm_DW G I4 L5 := mm_D_any hD
    exact W.zret (v := r6) (ty := .boolean) hx hb hr (zb_n hv.1) (fun t ht hW => ⟨⟨r6, (I4, L5), rfl, hv.2, mm_mv ht hP⟩, hS.F ht⟩) hS.2.2 d_X0_firstFits_106
  · have he : x1 = 2 := he
    have hv := hv.2.2.2.1 he
    refine lv_tableIn (tgt := 107) hx hb d_X0_firstFits_1 (by rw [he]; decide) (by rw [he]; decide) (by rw [he]; rfl) (by decide) ?_
    refine lv_iload_n hx hb d_X0_firstFits_107 rfl (lv_at hl 2 rfl) ?_
    refine lv_bipush (v := 8) hx hb d_X0_firstFits_108 (by decide) ?_
    refine va_calli (va_runSN (As := [.int x2, .int 8]) (rest := []) ⟨hx, hb, hml, hown, hg⟩ (m_X6_within l G x2 8 I L _  hv) ⟨va_cnB 2 hg (mm_g1 kc_X6_within mm_GW_self) rfl rfl rfl (nw_4 hC.2.2) (hg _ k_1) (by decide +kernel) ⟨Nat.le_of_ble_eq_true rfl, Nat.le_of_ble_eq_true rfl⟩, hg _ k_2, trivial⟩ ⟨mm_blind, fun U hU hW => mm_call hP hK hD hC hU hS hW⟩ rfl rfl hl.1 rfl (lv_room (Nat.le_of_ble_eq_true rfl)) d_X0_firstFits_110 ⟨Nat.zero_le _, Nat.zero_le _⟩) hS (fun q _ h => h) (fun q h => h) (fun r9 u t H locs ht hvm hv hP hz1 hk1 hS => ?_)
    obtain ⟨I7, L8⟩ := u
    dsimp only at hv hP
    rw [ht] at hP
    have hD : mm_DW G I7 L8 := mm_D_any hD
    exact W.zret (v := r9) (ty := .boolean) hx hb hr (zb_n hv.1) (fun t ht hW => ⟨⟨r9, (I7, L8), rfl, hv.2, mm_mv ht hP⟩, hS.F ht⟩) hS.2.2 d_X0_firstFits_113
  · have he : x1 = 3 := he
    have hv := hv.2.2.2.2.1 he
    refine lv_tableIn (tgt := 114) hx hb d_X0_firstFits_1 (by rw [he]; decide) (by rw [he]; decide) (by rw [he]; rfl) (by decide) ?_
    refine lv_iload_n hx hb d_X0_firstFits_114 rfl (lv_at hl 2 rfl) ?_
    refine lv_iconst (v := 2) hx hb d_X0_firstFits_115 (by decide) ?_
    refine va_calli (va_runSN (As := [.int x2, .int 2]) (rest := []) ⟨hx, hb, hml, hown, hg⟩ (m_X6_within l G x2 2 I L _  hv) ⟨va_cnB 2 hg (mm_g1 kc_X6_within mm_GW_self) rfl rfl rfl (nw_4 hC.2.2) (hg _ k_1) (by decide +kernel) ⟨Nat.le_of_ble_eq_true rfl, Nat.le_of_ble_eq_true rfl⟩, hg _ k_2, trivial⟩ ⟨mm_blind, fun U hU hW => mm_call hP hK hD hC hU hS hW⟩ rfl rfl hl.1 rfl (lv_room (Nat.le_of_ble_eq_true rfl)) d_X0_firstFits_116 ⟨Nat.zero_le _, Nat.zero_le _⟩) hS (fun q _ h => h) (fun q h => h) (fun r12 u t H locs ht hvm hv hP hz1 hk1 hS => ?_)
    obtain ⟨I10, L11⟩ := u
    dsimp only at hv hP
    rw [ht] at hP
    have hD : mm_DW G I10 L11 := mm_D_any hD
    exact W.zret (v := r12) (ty := .boolean) hx hb hr (zb_n hv.1) (fun t ht hW => ⟨⟨r12, (I10, L11), rfl, hv.2, mm_mv ht hP⟩, hS.F ht⟩) hS.2.2 d_X0_firstFits_119
  · have he : x1 = 4 := he
    have hv := hv.2.2.2.2.2.1 he
    refine lv_tableIn (tgt := 145) hx hb d_X0_firstFits_1 (by rw [he]; decide) (by rw [he]; decide) (by rw [he]; rfl) (by decide) ?_
    exact w_X0_firstFits_145 hcx x2 I L Q  hv hP hD hS (lv_sub hl [0, 2] rfl)
  · have he : x1 = 5 := he
    have hv := hv.2.2.2.2.2.2.1 he
    refine lv_tableIn (tgt := 145) hx hb d_X0_firstFits_1 (by rw [he]; decide) (by rw [he]; decide) (by rw [he]; rfl) (by decide) ?_
    exact w_X0_firstFits_145 hcx x2 I L Q  hv hP hD hS (lv_sub hl [0, 2] rfl)
  · have he : x1 = 6 := he
    have hv := hv.2.2.2.2.2.2.2.1 he
    refine lv_tableIn (tgt := 145) hx hb d_X0_firstFits_1 (by rw [he]; decide) (by rw [he]; decide) (by rw [he]; rfl) (by decide) ?_
    exact w_X0_firstFits_145 hcx x2 I L Q  hv hP hD hS (lv_sub hl [0, 2] rfl)
  · have he : x1 = 7 := he
    have hv := hv.2.2.2.2.2.2.2.2.1 he
    refine lv_tableIn (tgt := 145) hx hb d_X0_firstFits_1 (by rw [he]; decide) (by rw [he]; decide) (by rw [he]; rfl) (by decide) ?_
    exact w_X0_firstFits_145 hcx x2 I L Q  hv hP hD hS (lv_sub hl [0, 2] rfl)
  · have he : x1 = 8 := he
    have hv := hv.2.2.2.2.2.2.2.2.2.1 he
    refine lv_tableIn (tgt := 145) hx hb d_X0_firstFits_1 (by rw [he]; decide) (by rw [he]; decide) (by rw [he]; rfl) (by decide) ?_
    exact w_X0_firstFits_145 hcx x2 I L Q  hv hP hD hS (lv_sub hl [0, 2] rfl)
  · have he : x1 = 9 := he
    have hv := hv.2.2.2.2.2.2.2.2.2.2.1 he
    refine lv_tableIn (tgt := 145) hx hb d_X0_firstFits_1 (by rw [he]; decide) (by rw [he]; decide) (by rw [he]; rfl) (by decide) ?_
    exact w_X0_firstFits_145 hcx x2 I L Q  hv hP hD hS (lv_sub hl [0, 2] rfl)
  · have he : x1 = 10 := he
    have hv := hv.2.2.2.2.2.2.2.2.2.2.2.1 he
    refine lv_tableIn (tgt := 145) hx hb d_X0_firstFits_1 (by rw [he]; decide) (by rw [he]; decide) (by rw [he]; rfl) (by decide) ?_
    exact w_X0_firstFits_145 hcx x2 I L Q  hv hP hD hS (lv_sub hl [0, 2] rfl)
  · have he : x1 = 11 := he
    have hv := hv.2.2.2.2.2.2.2.2.2.2.2.2.1 he
    refine lv_tableIn (tgt := 145) hx hb d_X0_firstFits_1 (by rw [he]; decide) (by rw [he]; decide) (by rw [he]; rfl) (by decide) ?_
    exact w_X0_firstFits_145 hcx x2 I L Q  hv hP hD hS (lv_sub hl [0, 2] rfl)
  · have he : x1 = 12 := he
    have hv := hv.2.2.2.2.2.2.2.2.2.2.2.2.2.1 he
    refine lv_tableIn (tgt := 145) hx hb d_X0_firstFits_1 (by rw [he]; decide) (by rw [he]; decide) (by rw [he]; rfl) (by decide) ?_
    exact w_X0_firstFits_145 hcx x2 I L Q  hv hP hD hS (lv_sub hl [0, 2] rfl)
  · have he : x1 = 13 := he
    have hv := hv.2.2.2.2.2.2.2.2.2.2.2.2.2.2.1 he
    refine lv_tableIn (tgt := 145) hx hb d_X0_firstFits_1 (by rw [he]; decide) (by rw [he]; decide) (by rw [he]; rfl) (by decide) ?_
    exact w_X0_firstFits_145 hcx x2 I L Q  hv hP hD hS (lv_sub hl [0, 2] rfl)
  · have he : x1 = 14 := he
    have hv := hv.2.2.2.2.2.2.2.2.2.2.2.2.2.2.2.1 he
    refine lv_tableIn (tgt := 145) hx hb d_X0_firstFits_1 (by rw [he]; decide) (by rw [he]; decide) (by rw [he]; rfl) (by decide) ?_
    exact w_X0_firstFits_145 hcx x2 I L Q  hv hP hD hS (lv_sub hl [0, 2] rfl)
  · have he : x1 = 15 := he
    have hv := hv.2.2.2.2.2.2.2.2.2.2.2.2.2.2.2.2.1 he
    refine lv_tableIn (tgt := 145) hx hb d_X0_firstFits_1 (by rw [he]; decide) (by rw [he]; decide) (by rw [he]; rfl) (by decide) ?_
    exact w_X0_firstFits_145 hcx x2 I L Q  hv hP hD hS (lv_sub hl [0, 2] rfl)
  · have he : x1 = 16 := he
    have hv := hv.2.2.2.2.2.2.2.2.2.2.2.2.2.2.2.2.2.1 he
    refine lv_tableIn (tgt := 98) hx hb d_X0_firstFits_1 (by rw [he]; decide) (by rw [he]; decide) (by rw [he]; rfl) (by decide) ?_
    refine lv_iconst (v := 1) hx hb d_X0_firstFits_98 (by decide) ?_
    exact W.zret (v := 1) (ty := .boolean) hx hb hr (by decide) (fun t ht hW => ⟨⟨1, (I, L), rfl, hv, mm_mv ht hP⟩, hS.F ht⟩) hS.2.2 d_X0_firstFits_99
  · have he : x1 = 17 := he
    have hv := hv.2.2.2.2.2.2.2.2.2.2.2.2.2.2.2.2.2.2.1 he
    refine lv_tableIn (tgt := 126) hx hb d_X0_firstFits_1 (by rw [he]; decide) (by rw [he]; decide) (by rw [he]; rfl) (by decide) ?_
    refine lv_iload_n hx hb d_X0_firstFits_126 rfl (lv_at hl 2 rfl) ?_
    refine lv_iconst (v := (-1)) hx hb d_X0_firstFits_127 (by decide) ?_
    refine lv_icmp_eq (tgt := 139) hx hb d_X0_firstFits_128 (by decide) (fun hc => ?_) (fun hc => ?_)
    · have hv := hv.1 hc
      refine lv_iconst (v := 1) hx hb d_X0_firstFits_139 (by decide) ?_
      refine lv_goto (tgt := 144) hx hb d_X0_firstFits_140 (by decide) ?_
      exact W.zret (v := 1) (ty := .boolean) hx hb hr (by decide) (fun t ht hW => ⟨⟨1, (I, L), rfl, hv, mm_mv ht hP⟩, hS.F ht⟩) hS.2.2 d_X0_firstFits_144
    · have hv := hv.2 hc
      refine lv_aload_n hx hb d_X0_firstFits_131 rfl (lv_at hl 0 rfl) ?_
      refine lv_iload_n hx hb d_X0_firstFits_132 rfl (lv_at hl 2 rfl) ?_
      refine va_calli (va_runV (As := [.int x2]) (rest := []) ⟨hx, hb, hml, hown, hg⟩ (m_X0_has l G x2 I L _  hv) (cwV 1 hg (mm_gV k_3 k_4 k_5 k_6 kc_X0_has) rfl rfl rfl (by decide +kernel) ⟨Nat.le_of_ble_eq_true rfl, Nat.le_of_ble_eq_true rfl⟩) ⟨mm_blind, mm_recv hK hP (t := 2) (by decide) rfl rfl, fun U hU hW => mm_call hP hK hD hC hU hS hW⟩ rfl rfl hl.1 rfl (lv_room (Nat.le_of_ble_eq_true rfl)) d_X0_firstFits_133 ⟨Nat.zero_le _, Nat.zero_le _⟩) hS (fun q _ h => h) (fun q h => h) (fun r15 u t H locs ht hvm hv hP hz1 hk1 hS => ?_)
      obtain ⟨I13, L14⟩ := u
      dsimp only at hv hP
      rw [ht] at hP
      have hD : mm_DW G I13 L14 := mm_D_any hD
      refine lv_if_eq (tgt := 143) hx hb d_X0_firstFits_136 (by decide) (fun hc => ?_) (fun hc => ?_)
      · have hv := hv.1 hc
        refine lv_iconst (v := 0) hx hb d_X0_firstFits_143 (by decide) ?_
        exact W.zret (v := 0) (ty := .boolean) hx hb hr (by decide) (fun t ht hW => ⟨⟨0, (I13, L14), rfl, hv, mm_mv ht hP⟩, hS.F ht⟩) hS.2.2 d_X0_firstFits_144
      · have hv := hv.2 hc
        refine lv_iconst (v := 1) hx hb d_X0_firstFits_139 (by decide) ?_
        refine lv_goto (tgt := 144) hx hb d_X0_firstFits_140 (by decide) ?_
        exact W.zret (v := 1) (ty := .boolean) hx hb hr (by decide) (fun t ht hW => ⟨⟨1, (I13, L14), rfl, hv, mm_mv ht hP⟩, hS.F ht⟩) hS.2.2 d_X0_firstFits_144
  · have he : x1 = 18 := he
    have hv := hv.2.2.2.2.2.2.2.2.2.2.2.2.2.2.2.2.2.2.2.1 he
    refine lv_tableIn (tgt := 145) hx hb d_X0_firstFits_1 (by rw [he]; decide) (by rw [he]; decide) (by rw [he]; rfl) (by decide) ?_
    exact w_X0_firstFits_145 hcx x2 I L Q  hv hP hD hS (lv_sub hl [0, 2] rfl)
  · have he : x1 = 19 := he
    have hv := hv.2.2.2.2.2.2.2.2.2.2.2.2.2.2.2.2.2.2.2.2 he
    refine lv_tableIn (tgt := 120) hx hb d_X0_firstFits_1 (by rw [he]; decide) (by rw [he]; decide) (by rw [he]; rfl) (by decide) ?_
    refine lv_iload_n hx hb d_X0_firstFits_120 rfl (lv_at hl 2 rfl) ?_
    refine lv_iconst (v := 2) hx hb d_X0_firstFits_121 (by decide) ?_
    refine va_calli (va_runSN (As := [.int x2, .int 2]) (rest := []) ⟨hx, hb, hml, hown, hg⟩ (m_X6_within l G x2 2 I L _  hv) ⟨va_cnB 2 hg (mm_g1 kc_X6_within mm_GW_self) rfl rfl rfl (nw_4 hC.2.2) (hg _ k_1) (by decide +kernel) ⟨Nat.le_of_ble_eq_true rfl, Nat.le_of_ble_eq_true rfl⟩, hg _ k_2, trivial⟩ ⟨mm_blind, fun U hU hW => mm_call hP hK hD hC hU hS hW⟩ rfl rfl hl.1 rfl (lv_room (Nat.le_of_ble_eq_true rfl)) d_X0_firstFits_122 ⟨Nat.zero_le _, Nat.zero_le _⟩) hS (fun q _ h => h) (fun q h => h) (fun r18 u t H locs ht hvm hv hP hz1 hk1 hS => ?_)
    obtain ⟨I16, L17⟩ := u
    dsimp only at hv hP
    rw [ht] at hP
    have hD : mm_DW G I16 L17 := mm_D_any hD
    exact W.zret (v := r18) (ty := .boolean) hx hb hr (zb_n hv.1) (fun t ht hW => ⟨⟨r18, (I16, L17), rfl, hv.2, mm_mv ht hP⟩, hS.F ht⟩) hS.2.2 d_X0_firstFits_125
abbrev vc_X0_firstFits (x1 : Int32) (x2 : Int32) (I : mm_I) (L : mm_L) (Q : Int32 → mm_I → mm_L → Prop) : Prop := vc_X0_firstFits_0 x1 x2 I L Q
set_option maxHeartbeats 4000000 in
set_option maxRecDepth 100000 in
theorem m_X0_firstFits (l : Launch) (G : mm_G) (x1 : Int32) (x2 : Int32) (I : mm_I) (L : mm_L) (Q : Int32 → mm_I → mm_L → Prop)  (hv : vc_X0_firstFits x1 x2 I L Q) : Met l y_X0_firstFits w_X0_firstFits rm_X0_firstFits (mm_pre G [.ref (G.2.2.1 2), .int x1, .int x2] I L) (mm_qi G Q) 0 0 G.2.2.2.1 := by
  refine Met.ofW (cc := c_X0_firstFits) (maxL := 3) (ret := (some .boolean)) (by decide) rfl ?_
  intro p e s m args below meth c s₁ B hml hw
  obtain ⟨rfl, hP, hK, hD, hC⟩ := hw
  have hts := atoms_spec (ws := w_X0_firstFits) B.pre
  have hown : s.vm.findClass RX0 = some m.cls := findClass_of_methodNamed B.named
  have hl := lv_entry ([.ref (G.2.2.1 2), .int x1, .int x2]) (n := 3) (Nat.le_of_ble_eq_true rfl)
  rw [lg_entry_eq]
  generalize (lg_sl ([.ref (G.2.2.1 2), .int x1, .int x2]) ++ List.replicate (3 - (lg_sl ([.ref (G.2.2.1 2), .int x1, .int x2])).length) Slot.unset).toArray = ls at hl ⊢
  have hl : lv_has ls 3 [(0, .ref (G.2.2.1 2)), (1, .int x1), (2, .int x2)] := hl
  exact w_X0_firstFits_0 ⟨B.exec, B.bytes, B.returns, B.notSynchronized, hml, hown, fun w h => hts w (List.mem_cons_of_mem _ h), hK, hC⟩ x1 x2 I L Q  hv hP hD va_S.rf hl
abbrev rm_X0_takesNode : Room := { frames := 0, cells := 0, slots := 0, locals := 0 }
def vc_X0_takesNode_0 (x0 : Int32) (x1 : Int32) (I : mm_I) (L : mm_L) (Q : Int32 → mm_I → mm_L → Prop) : Prop :=
  vp_in x0 20 ∧ (((tb_no x0.toNatClampNeg) &&& x1) = 0 → Q 0 I L) ∧ (¬ ((tb_no x0.toNatClampNeg) &&& x1) = 0 → Q 1 I L)
set_option maxHeartbeats 4000000 in
set_option maxRecDepth 100000 in
theorem w_X0_takesNode_0 {p : Program} {l : Launch} {e : Env} {s : State} {m : MethodId} {args : Array Value} {below : List Frame} {meth : Method} {c : Code} {G : mm_G} (hcx : mm_cx c_X0_takesNode (some .boolean) 2 RX0 G p s m args meth c) (x0 : Int32) (x1 : Int32) (I : mm_I) (L : mm_L) (Q : Int32 → mm_I → mm_L → Prop)  (hv : vc_X0_takesNode_0 x0 x1 I L Q) {H : Heap} {locs : List Loc} (hP : mm_PW G I L H) (hD : mm_DW G I L) (hS : va_S G.2.2.2.1 s.heap H locs) {ls : Array Slot} (hl : lv_has ls 2 [(0, .int x0), (1, .int x1)]) : W p l e (headSpec w_X0_takesNode rm_X0_takesNode).room s m args below meth c H locs 0 0 (MQ below (mm_qi G Q) args s 0 0 G.2.2.2.1) (F0 m 0 ls []) := by
  obtain ⟨hx, hb, hr, hlocks, hml, hown, hg, hK, hC⟩ := id hcx
  unfold vc_X0_takesNode_0 at hv
  refine va_getsN hx hb hC.1 hS hown (va_Nw.use rfl (nw_5 hC.2.2)) (fun _ h9 => h9) d_X0_takesNode_0 ?_
  refine lv_iload_n hx hb d_X0_takesNode_3 rfl (lv_at hl 0 rfl) ?_
  obtain ⟨h22, hv⟩ := hv
  refine va_ti hx hb hC.2.1 hS h22 (v := .int (tb_no x0.toNatClampNeg)) rfl d_X0_takesNode_4 ?_
  refine lv_iload_n hx hb d_X0_takesNode_5 rfl (lv_at hl 1 rfl) ?_
  refine lv_iand hx hb d_X0_takesNode_6 ?_
  refine lv_if_eq (tgt := 14) hx hb d_X0_takesNode_7 (by decide) (fun hc => ?_) (fun hc => ?_)
  · have hv := hv.1 hc
    refine lv_iconst (v := 0) hx hb d_X0_takesNode_14 (by decide) ?_
    exact W.zret (v := 0) (ty := .boolean) hx hb hr (by decide) (fun t ht hW => ⟨⟨0, (I, L), rfl, hv, mm_mv ht hP⟩, hS.F ht⟩) hS.2.2 d_X0_takesNode_15
  · have hv := hv.2 hc
    refine lv_iconst (v := 1) hx hb d_X0_takesNode_10 (by decide) ?_
    refine lv_goto (tgt := 15) hx hb d_X0_takesNode_11 (by decide) ?_
    exact W.zret (v := 1) (ty := .boolean) hx hb hr (by decide) (fun t ht hW => ⟨⟨1, (I, L), rfl, hv, mm_mv ht hP⟩, hS.F ht⟩) hS.2.2 d_X0_takesNode_15
abbrev vc_X0_takesNode (x0 : Int32) (x1 : Int32) (I : mm_I) (L : mm_L) (Q : Int32 → mm_I → mm_L → Prop) : Prop := vc_X0_takesNode_0 x0 x1 I L Q
set_option maxHeartbeats 4000000 in
set_option maxRecDepth 100000 in
theorem m_X0_takesNode (l : Launch) (G : mm_G) (x0 : Int32) (x1 : Int32) (I : mm_I) (L : mm_L) (Q : Int32 → mm_I → mm_L → Prop)  (hv : vc_X0_takesNode x0 x1 I L Q) : Met l y_X0_takesNode w_X0_takesNode rm_X0_takesNode (mm_pre G [.int x0, .int x1] I L) (mm_qi G Q) 0 0 G.2.2.2.1 := by
  refine Met.ofW (cc := c_X0_takesNode) (maxL := 2) (ret := (some .boolean)) (by decide) rfl ?_
  intro p e s m args below meth c s₁ B hml hw
  obtain ⟨rfl, hP, hK, hD, hC⟩ := hw
  have hts := atoms_spec (ws := w_X0_takesNode) B.pre
  have hown : s.vm.findClass RX0 = some m.cls := findClass_of_methodNamed B.named
  have hl := lv_entry ([.int x0, .int x1]) (n := 2) (Nat.le_of_ble_eq_true rfl)
  rw [lg_entry_eq]
  generalize (lg_sl ([.int x0, .int x1]) ++ List.replicate (2 - (lg_sl ([.int x0, .int x1])).length) Slot.unset).toArray = ls at hl ⊢
  have hl : lv_has ls 2 [(0, .int x0), (1, .int x1)] := hl
  exact w_X0_takesNode_0 ⟨B.exec, B.bytes, B.returns, B.notSynchronized, hml, hown, fun w h => hts w (List.mem_cons_of_mem _ h), hK, hC⟩ x0 x1 I L Q  hv hP hD va_S.rf hl
abbrev rm_X0_operandsFit : Room := { frames := 3, cells := 0, slots := 0, locals := 64 }
def vc_X0_operandsFit_25 (x1 : Int32) (x4 : Int32) (I : mm_I) (L : mm_L) (Q : Int32 → mm_I → mm_L → Prop) : Prop :=
  vc_X0_takesNode x1 4 I L (fun r34 I32 L33 => (r34 = 0 → Q 1 I32 L33) ∧ (¬ r34 = 0 → vc_X0_has x4 I32 L33 (fun r37 I35 L36 => (r37 = 0 → Q 0 I35 L36) ∧ (¬ r37 = 0 → Q 1 I35 L36))))
def vc_X0_operandsFit_0 (x1 : Int32) (x2 : Int32) (x3 : Int32) (x4 : Int32) (I : mm_I) (L : mm_L) (Q : Int32 → mm_I → mm_L → Prop) : Prop :=
  vc_X0_firstFits x1 x2 I L (fun r25 I23 L24 => (r25 = 0 → Q 0 I23 L24) ∧ (¬ r25 = 0 → vc_X0_takesNode x1 2 I23 L24 (fun r28 I26 L27 => (r28 = 0 → vc_X0_operandsFit_25 x1 x4 I26 L27 Q) ∧ (¬ r28 = 0 → vc_X0_has x3 I26 L27 (fun r31 I29 L30 => (r31 = 0 → Q 0 I29 L30) ∧ (¬ r31 = 0 → vc_X0_operandsFit_25 x1 x4 I29 L30 Q))))))
set_option maxHeartbeats 4000000 in
set_option maxRecDepth 100000 in
theorem w_X0_operandsFit_25 {p : Program} {l : Launch} {e : Env} {s : State} {m : MethodId} {args : Array Value} {below : List Frame} {meth : Method} {c : Code} {G : mm_G} (hcx : mm_cx c_X0_operandsFit (some .boolean) 5 RX0 G p s m args meth c) (x1 : Int32) (x4 : Int32) (I : mm_I) (L : mm_L) (Q : Int32 → mm_I → mm_L → Prop)  (hv : vc_X0_operandsFit_25 x1 x4 I L Q) {H : Heap} {locs : List Loc} (hP : mm_PW G I L H) (hD : mm_DW G I L) (hS : va_S G.2.2.2.1 s.heap H locs) {ls : Array Slot} (hl : lv_has ls 5 [(0, .ref (G.2.2.1 2)), (1, .int x1), (4, .int x4)]) : W p l e (headSpec w_X0_operandsFit rm_X0_operandsFit).room s m args below meth c H locs 0 0 (MQ below (mm_qi G Q) args s 0 0 G.2.2.2.1) (F0 m 25 ls []) := by
  obtain ⟨hx, hb, hr, hlocks, hml, hown, hg, hK, hC⟩ := id hcx
  unfold vc_X0_operandsFit_25 at hv
  refine lv_iload_n hx hb d_X0_operandsFit_25 rfl (lv_at hl 1 rfl) ?_
  refine lv_iconst (v := 4) hx hb d_X0_operandsFit_26 (by decide) ?_
  refine va_calli (va_runS (As := [.int x1, .int 4]) (rest := []) ⟨hx, hb, hml, hown, hg⟩ (m_X0_takesNode l G x1 4 I L _  hv) (va_cwS 2 hg (mm_gS k_7 k_8 k_6 kc_X0_takesNode) rfl rfl rfl (by decide +kernel) ⟨Nat.le_of_ble_eq_true rfl, Nat.le_of_ble_eq_true rfl⟩) ⟨mm_blind, fun U hU hW => mm_call hP hK hD hC hU hS hW⟩ rfl rfl hl.1 rfl (lv_room (Nat.le_of_ble_eq_true rfl)) d_X0_operandsFit_27 ⟨Nat.zero_le _, Nat.zero_le _⟩) hS (fun q _ h => h) (fun q h => h) (fun r34 u t H locs ht hvm hv hP hz1 hk1 hS => ?_)
  obtain ⟨I32, L33⟩ := u
  dsimp only at hv hP
  rw [ht] at hP
  have hD : mm_DW G I32 L33 := mm_D_any hD
  refine lv_if_eq (tgt := 42) hx hb d_X0_operandsFit_30 (by decide) (fun hc => ?_) (fun hc => ?_)
  · have hv := hv.1 hc
    refine lv_iconst (v := 1) hx hb d_X0_operandsFit_42 (by decide) ?_
    refine lv_goto (tgt := 47) hx hb d_X0_operandsFit_43 (by decide) ?_
    exact W.zret (v := 1) (ty := .boolean) hx hb hr (by decide) (fun t ht hW => ⟨⟨1, (I32, L33), rfl, hv, mm_mv ht hP⟩, hS.F ht⟩) hS.2.2 d_X0_operandsFit_47
  · have hv := hv.2 hc
    refine lv_aload_n hx hb d_X0_operandsFit_33 rfl (lv_at hl 0 rfl) ?_
    refine lv_iload hx hb d_X0_operandsFit_34 (lv_at hl 2 rfl) ?_
    refine va_calli (va_runV (As := [.int x4]) (rest := []) ⟨hx, hb, hml, hown, hg⟩ (m_X0_has l G x4 I32 L33 _  hv) (cwV 1 hg (mm_gV k_3 k_4 k_5 k_6 kc_X0_has) rfl rfl rfl (by decide +kernel) ⟨Nat.le_of_ble_eq_true rfl, Nat.le_of_ble_eq_true rfl⟩) ⟨mm_blind, mm_recv hK hP (t := 2) (by decide) rfl rfl, fun U hU hW => mm_call hP hK hD hC hU hS hW⟩ rfl rfl hl.1 rfl (lv_room (Nat.le_of_ble_eq_true rfl)) d_X0_operandsFit_36 ⟨Nat.zero_le _, Nat.zero_le _⟩) hS (fun q _ h => h) (fun q h => h) (fun r37 u t H locs ht hvm hv hP hz1 hk1 hS => ?_)
    obtain ⟨I35, L36⟩ := u
    dsimp only at hv hP
    rw [ht] at hP
    have hD : mm_DW G I35 L36 := mm_D_any hD
    refine lv_if_eq (tgt := 46) hx hb d_X0_operandsFit_39 (by decide) (fun hc => ?_) (fun hc => ?_)
    · have hv := hv.1 hc
      refine lv_iconst (v := 0) hx hb d_X0_operandsFit_46 (by decide) ?_
      exact W.zret (v := 0) (ty := .boolean) hx hb hr (by decide) (fun t ht hW => ⟨⟨0, (I35, L36), rfl, hv, mm_mv ht hP⟩, hS.F ht⟩) hS.2.2 d_X0_operandsFit_47
    · have hv := hv.2 hc
      refine lv_iconst (v := 1) hx hb d_X0_operandsFit_42 (by decide) ?_
      refine lv_goto (tgt := 47) hx hb d_X0_operandsFit_43 (by decide) ?_
      exact W.zret (v := 1) (ty := .boolean) hx hb hr (by decide) (fun t ht hW => ⟨⟨1, (I35, L36), rfl, hv, mm_mv ht hP⟩, hS.F ht⟩) hS.2.2 d_X0_operandsFit_47
set_option maxHeartbeats 4000000 in
set_option maxRecDepth 100000 in
theorem w_X0_operandsFit_0 {p : Program} {l : Launch} {e : Env} {s : State} {m : MethodId} {args : Array Value} {below : List Frame} {meth : Method} {c : Code} {G : mm_G} (hcx : mm_cx c_X0_operandsFit (some .boolean) 5 RX0 G p s m args meth c) (x1 : Int32) (x2 : Int32) (x3 : Int32) (x4 : Int32) (I : mm_I) (L : mm_L) (Q : Int32 → mm_I → mm_L → Prop)  (hv : vc_X0_operandsFit_0 x1 x2 x3 x4 I L Q) {H : Heap} {locs : List Loc} (hP : mm_PW G I L H) (hD : mm_DW G I L) (hS : va_S G.2.2.2.1 s.heap H locs) {ls : Array Slot} (hl : lv_has ls 5 [(0, .ref (G.2.2.1 2)), (1, .int x1), (2, .int x2), (3, .int x3), (4, .int x4)]) : W p l e (headSpec w_X0_operandsFit rm_X0_operandsFit).room s m args below meth c H locs 0 0 (MQ below (mm_qi G Q) args s 0 0 G.2.2.2.1) (F0 m 0 ls []) := by
  obtain ⟨hx, hb, hr, hlocks, hml, hown, hg, hK, hC⟩ := id hcx
  unfold vc_X0_operandsFit_0 at hv
  refine lv_aload_n hx hb d_X0_operandsFit_0 rfl (lv_at hl 0 rfl) ?_
  refine lv_iload_n hx hb d_X0_operandsFit_1 rfl (lv_at hl 1 rfl) ?_
  refine lv_iload_n hx hb d_X0_operandsFit_2 rfl (lv_at hl 2 rfl) ?_
  refine va_calli (va_runV (As := [.int x1, .int x2]) (rest := []) ⟨hx, hb, hml, hown, hg⟩ (m_X0_firstFits l G x1 x2 I L _  hv) (cwV 2 hg (mm_gV k_9 k_10 k_11 k_6 kc_X0_firstFits) rfl rfl rfl (by decide +kernel) ⟨Nat.le_of_ble_eq_true rfl, Nat.le_of_ble_eq_true rfl⟩) ⟨mm_blind, mm_recv hK hP (t := 2) (by decide) rfl rfl, fun U hU hW => mm_call hP hK hD hC hU hS hW⟩ rfl rfl hl.1 rfl (lv_room (Nat.le_of_ble_eq_true rfl)) d_X0_operandsFit_3 ⟨Nat.zero_le _, Nat.zero_le _⟩) hS (fun q _ h => h) (fun q h => h) (fun r25 u t H locs ht hvm hv hP hz1 hk1 hS => ?_)
  obtain ⟨I23, L24⟩ := u
  dsimp only at hv hP
  rw [ht] at hP
  have hD : mm_DW G I23 L24 := mm_D_any hD
  refine lv_if_eq (tgt := 46) hx hb d_X0_operandsFit_6 (by decide) (fun hc => ?_) (fun hc => ?_)
  · have hv := hv.1 hc
    refine lv_iconst (v := 0) hx hb d_X0_operandsFit_46 (by decide) ?_
    exact W.zret (v := 0) (ty := .boolean) hx hb hr (by decide) (fun t ht hW => ⟨⟨0, (I23, L24), rfl, hv, mm_mv ht hP⟩, hS.F ht⟩) hS.2.2 d_X0_operandsFit_47
  · have hv := hv.2 hc
    refine lv_iload_n hx hb d_X0_operandsFit_9 rfl (lv_at hl 1 rfl) ?_
    refine lv_iconst (v := 2) hx hb d_X0_operandsFit_10 (by decide) ?_
    refine va_calli (va_runS (As := [.int x1, .int 2]) (rest := []) ⟨hx, hb, hml, hown, hg⟩ (m_X0_takesNode l G x1 2 I23 L24 _  hv) (va_cwS 2 hg (mm_gS k_7 k_8 k_6 kc_X0_takesNode) rfl rfl rfl (by decide +kernel) ⟨Nat.le_of_ble_eq_true rfl, Nat.le_of_ble_eq_true rfl⟩) ⟨mm_blind, fun U hU hW => mm_call hP hK hD hC hU hS hW⟩ rfl rfl hl.1 rfl (lv_room (Nat.le_of_ble_eq_true rfl)) d_X0_operandsFit_11 ⟨Nat.zero_le _, Nat.zero_le _⟩) hS (fun q _ h => h) (fun q h => h) (fun r28 u t H locs ht hvm hv hP hz1 hk1 hS => ?_)
    obtain ⟨I26, L27⟩ := u
    dsimp only at hv hP
    rw [ht] at hP
    have hD : mm_DW G I26 L27 := mm_D_any hD
    refine lv_if_eq (tgt := 25) hx hb d_X0_operandsFit_14 (by decide) (fun hc => ?_) (fun hc => ?_)
    · have hv := hv.1 hc
      exact w_X0_operandsFit_25 hcx x1 x4 I26 L27 Q  hv hP hD hS (lv_sub hl [0, 1, 4] rfl)
    · have hv := hv.2 hc
      refine lv_aload_n hx hb d_X0_operandsFit_17 rfl (lv_at hl 0 rfl) ?_
      refine lv_iload_n hx hb d_X0_operandsFit_18 rfl (lv_at hl 3 rfl) ?_
      refine va_calli (va_runV (As := [.int x3]) (rest := []) ⟨hx, hb, hml, hown, hg⟩ (m_X0_has l G x3 I26 L27 _  hv) (cwV 1 hg (mm_gV k_3 k_4 k_5 k_6 kc_X0_has) rfl rfl rfl (by decide +kernel) ⟨Nat.le_of_ble_eq_true rfl, Nat.le_of_ble_eq_true rfl⟩) ⟨mm_blind, mm_recv hK hP (t := 2) (by decide) rfl rfl, fun U hU hW => mm_call hP hK hD hC hU hS hW⟩ rfl rfl hl.1 rfl (lv_room (Nat.le_of_ble_eq_true rfl)) d_X0_operandsFit_19 ⟨Nat.zero_le _, Nat.zero_le _⟩) hS (fun q _ h => h) (fun q h => h) (fun r31 u t H locs ht hvm hv hP hz1 hk1 hS => ?_)
      obtain ⟨I29, L30⟩ := u
      dsimp only at hv hP
      rw [ht] at hP
      have hD : mm_DW G I29 L30 := mm_D_any hD
      refine lv_if_eq (tgt := 46) hx hb d_X0_operandsFit_22 (by decide) (fun hc => ?_) (fun hc => ?_)
      · have hv := hv.1 hc
        refine lv_iconst (v := 0) hx hb d_X0_operandsFit_46 (by decide) ?_
        exact W.zret (v := 0) (ty := .boolean) hx hb hr (by decide) (fun t ht hW => ⟨⟨0, (I29, L30), rfl, hv, mm_mv ht hP⟩, hS.F ht⟩) hS.2.2 d_X0_operandsFit_47
      · have hv := hv.2 hc
        exact w_X0_operandsFit_25 hcx x1 x4 I29 L30 Q  hv hP hD hS (lv_sub hl [0, 1, 4] rfl)
abbrev vc_X0_operandsFit (x1 : Int32) (x2 : Int32) (x3 : Int32) (x4 : Int32) (I : mm_I) (L : mm_L) (Q : Int32 → mm_I → mm_L → Prop) : Prop := vc_X0_operandsFit_0 x1 x2 x3 x4 I L Q
set_option maxHeartbeats 4000000 in
set_option maxRecDepth 100000 in
theorem m_X0_operandsFit (l : Launch) (G : mm_G) (x1 : Int32) (x2 : Int32) (x3 : Int32) (x4 : Int32) (I : mm_I) (L : mm_L) (Q : Int32 → mm_I → mm_L → Prop)  (hv : vc_X0_operandsFit x1 x2 x3 x4 I L Q) : Met l y_X0_operandsFit w_X0_operandsFit rm_X0_operandsFit (mm_pre G [.ref (G.2.2.1 2), .int x1, .int x2, .int x3, .int x4] I L) (mm_qi G Q) 0 0 G.2.2.2.1 := by
  refine Met.ofW (cc := c_X0_operandsFit) (maxL := 5) (ret := (some .boolean)) (by decide) rfl ?_
  intro p e s m args below meth c s₁ B hml hw
  obtain ⟨rfl, hP, hK, hD, hC⟩ := hw
  have hts := atoms_spec (ws := w_X0_operandsFit) B.pre
  have hown : s.vm.findClass RX0 = some m.cls := findClass_of_methodNamed B.named
  have hl := lv_entry ([.ref (G.2.2.1 2), .int x1, .int x2, .int x3, .int x4]) (n := 5) (Nat.le_of_ble_eq_true rfl)
  rw [lg_entry_eq]
  generalize (lg_sl ([.ref (G.2.2.1 2), .int x1, .int x2, .int x3, .int x4]) ++ List.replicate (5 - (lg_sl ([.ref (G.2.2.1 2), .int x1, .int x2, .int x3, .int x4])).length) Slot.unset).toArray = ls at hl ⊢
  have hl : lv_has ls 5 [(0, .ref (G.2.2.1 2)), (1, .int x1), (2, .int x2), (3, .int x3), (4, .int x4)] := hl
  exact w_X0_operandsFit_0 ⟨B.exec, B.bytes, B.returns, B.notSynchronized, hml, hown, fun w h => hts w (List.mem_cons_of_mem _ h), hK, hC⟩ x1 x2 x3 x4 I L Q  hv hP hD va_S.rf hl
abbrev rm_X0_levelOf : Room := { frames := 0, cells := 0, slots := 0, locals := 0 }
def vc_X0_levelOf_0 (x1 : Int32) (I : mm_I) (L : mm_L) (Q : Int32 → mm_I → mm_L → Prop) : Prop :=
  (¬ x1 = (-1) → vp_in x1 70 ∧ Q (I 7 x1.toNatClampNeg) I L) ∧ (x1 = (-1) → Q 0 I L)
set_option maxHeartbeats 4000000 in
set_option maxRecDepth 100000 in
theorem w_X0_levelOf_0 {p : Program} {l : Launch} {e : Env} {s : State} {m : MethodId} {args : Array Value} {below : List Frame} {meth : Method} {c : Code} {G : mm_G} (hcx : mm_cx c_X0_levelOf (some .int) 2 RX0 G p s m args meth c) (x1 : Int32) (I : mm_I) (L : mm_L) (Q : Int32 → mm_I → mm_L → Prop)  (hv : vc_X0_levelOf_0 x1 I L Q) {H : Heap} {locs : List Loc} (hP : mm_PW G I L H) (hD : mm_DW G I L) (hS : va_S G.2.2.2.1 s.heap H locs) {ls : Array Slot} (hl : lv_has ls 2 [(0, .ref (G.2.2.1 2)), (1, .int x1)]) : W p l e (headSpec w_X0_levelOf rm_X0_levelOf).room s m args below meth c H locs 0 0 (MQ below (mm_qi G Q) args s 0 0 G.2.2.2.1) (F0 m 0 ls []) := by
  obtain ⟨hx, hb, hr, hlocks, hml, hown, hg, hK, hC⟩ := id hcx
  unfold vc_X0_levelOf_0 at hv
  refine lv_iload_n hx hb d_X0_levelOf_0 rfl (lv_at hl 1 rfl) ?_
  refine lv_iconst (v := (-1)) hx hb d_X0_levelOf_1 (by decide) ?_
  refine lv_icmp_ne (tgt := 9) hx hb d_X0_levelOf_2 (by decide) (fun hc => ?_) (fun hc => ?_)
  · have hv := hv.1 hc
    refine lv_aload_n hx hb d_X0_levelOf_9 rfl (lv_at hl 0 rfl) ?_
    refine mm_gr (D := G.1) (C := RX0) (T := TX0) (N0 := 8) (r := 7) hx hb hg in_X0 hown hK hP (t := 2) (by decide) rfl rfl 4 (by decide) (hg _ k_12) (fun _ h9 => h9) rfl d_X0_levelOf_10 ?_
    refine lv_iload_n hx hb d_X0_levelOf_13 rfl (lv_at hl 1 rfl) ?_
    obtain ⟨h38, hv⟩ := hv
    refine mm_iald (D := G.1) hx hb hK hP (t := 7) (by decide) rfl rfl h38 d_X0_levelOf_14 ?_
    exact W.iret (v := (I 7 x1.toNatClampNeg)) hx hb hr (fun t ht hW => ⟨⟨(I 7 x1.toNatClampNeg), (I, L), rfl, hv, mm_mv ht hP⟩, hS.F ht⟩) hS.2.2 d_X0_levelOf_15
  · have hv := hv.2 hc
    refine lv_iconst (v := 0) hx hb d_X0_levelOf_5 (by decide) ?_
    refine lv_goto (tgt := 15) hx hb d_X0_levelOf_6 (by decide) ?_
    exact W.iret (v := 0) hx hb hr (fun t ht hW => ⟨⟨0, (I, L), rfl, hv, mm_mv ht hP⟩, hS.F ht⟩) hS.2.2 d_X0_levelOf_15
abbrev vc_X0_levelOf (x1 : Int32) (I : mm_I) (L : mm_L) (Q : Int32 → mm_I → mm_L → Prop) : Prop := vc_X0_levelOf_0 x1 I L Q
set_option maxHeartbeats 4000000 in
set_option maxRecDepth 100000 in
theorem m_X0_levelOf (l : Launch) (G : mm_G) (x1 : Int32) (I : mm_I) (L : mm_L) (Q : Int32 → mm_I → mm_L → Prop)  (hv : vc_X0_levelOf x1 I L Q) : Met l y_X0_levelOf w_X0_levelOf rm_X0_levelOf (mm_pre G [.ref (G.2.2.1 2), .int x1] I L) (mm_qi G Q) 0 0 G.2.2.2.1 := by
  refine Met.ofW (cc := c_X0_levelOf) (maxL := 2) (ret := (some .int)) (by decide) rfl ?_
  intro p e s m args below meth c s₁ B hml hw
  obtain ⟨rfl, hP, hK, hD, hC⟩ := hw
  have hts := atoms_spec (ws := w_X0_levelOf) B.pre
  have hown : s.vm.findClass RX0 = some m.cls := findClass_of_methodNamed B.named
  have hl := lv_entry ([.ref (G.2.2.1 2), .int x1]) (n := 2) (Nat.le_of_ble_eq_true rfl)
  rw [lg_entry_eq]
  generalize (lg_sl ([.ref (G.2.2.1 2), .int x1]) ++ List.replicate (2 - (lg_sl ([.ref (G.2.2.1 2), .int x1])).length) Slot.unset).toArray = ls at hl ⊢
  have hl : lv_has ls 2 [(0, .ref (G.2.2.1 2)), (1, .int x1)] := hl
  exact w_X0_levelOf_0 ⟨B.exec, B.bytes, B.returns, B.notSynchronized, hml, hown, fun w h => hts w (List.mem_cons_of_mem _ h), hK, hC⟩ x1 I L Q  hv hP hD va_S.rf hl
abbrev rm_X0_rankOf : Room := { frames := 0, cells := 0, slots := 0, locals := 0 }
def vc_X0_rankOf_0 (x1 : Int32) (I : mm_I) (L : mm_L) (Q : Int32 → mm_I → mm_L → Prop) : Prop :=
  (¬ x1 = (-1) → vp_in x1 70 ∧ Q (I 8 x1.toNatClampNeg) I L) ∧ (x1 = (-1) → Q 0 I L)
set_option maxHeartbeats 4000000 in
set_option maxRecDepth 100000 in
theorem w_X0_rankOf_0 {p : Program} {l : Launch} {e : Env} {s : State} {m : MethodId} {args : Array Value} {below : List Frame} {meth : Method} {c : Code} {G : mm_G} (hcx : mm_cx c_X0_rankOf (some .int) 2 RX0 G p s m args meth c) (x1 : Int32) (I : mm_I) (L : mm_L) (Q : Int32 → mm_I → mm_L → Prop)  (hv : vc_X0_rankOf_0 x1 I L Q) {H : Heap} {locs : List Loc} (hP : mm_PW G I L H) (hD : mm_DW G I L) (hS : va_S G.2.2.2.1 s.heap H locs) {ls : Array Slot} (hl : lv_has ls 2 [(0, .ref (G.2.2.1 2)), (1, .int x1)]) : W p l e (headSpec w_X0_rankOf rm_X0_rankOf).room s m args below meth c H locs 0 0 (MQ below (mm_qi G Q) args s 0 0 G.2.2.2.1) (F0 m 0 ls []) := by
  obtain ⟨hx, hb, hr, hlocks, hml, hown, hg, hK, hC⟩ := id hcx
  unfold vc_X0_rankOf_0 at hv
  refine lv_iload_n hx hb d_X0_rankOf_0 rfl (lv_at hl 1 rfl) ?_
  refine lv_iconst (v := (-1)) hx hb d_X0_rankOf_1 (by decide) ?_
  refine lv_icmp_ne (tgt := 9) hx hb d_X0_rankOf_2 (by decide) (fun hc => ?_) (fun hc => ?_)
  · have hv := hv.1 hc
    refine lv_aload_n hx hb d_X0_rankOf_9 rfl (lv_at hl 0 rfl) ?_
    refine mm_gr (D := G.1) (C := RX0) (T := TX0) (N0 := 8) (r := 8) hx hb hg in_X0 hown hK hP (t := 2) (by decide) rfl rfl 5 (by decide) (hg _ k_13) (fun _ h9 => h9) rfl d_X0_rankOf_10 ?_
    refine lv_iload_n hx hb d_X0_rankOf_13 rfl (lv_at hl 1 rfl) ?_
    obtain ⟨h39, hv⟩ := hv
    refine mm_iald (D := G.1) hx hb hK hP (t := 8) (by decide) rfl rfl h39 d_X0_rankOf_14 ?_
    exact W.iret (v := (I 8 x1.toNatClampNeg)) hx hb hr (fun t ht hW => ⟨⟨(I 8 x1.toNatClampNeg), (I, L), rfl, hv, mm_mv ht hP⟩, hS.F ht⟩) hS.2.2 d_X0_rankOf_15
  · have hv := hv.2 hc
    refine lv_iconst (v := 0) hx hb d_X0_rankOf_5 (by decide) ?_
    refine lv_goto (tgt := 15) hx hb d_X0_rankOf_6 (by decide) ?_
    exact W.iret (v := 0) hx hb hr (fun t ht hW => ⟨⟨0, (I, L), rfl, hv, mm_mv ht hP⟩, hS.F ht⟩) hS.2.2 d_X0_rankOf_15
abbrev vc_X0_rankOf (x1 : Int32) (I : mm_I) (L : mm_L) (Q : Int32 → mm_I → mm_L → Prop) : Prop := vc_X0_rankOf_0 x1 I L Q
set_option maxHeartbeats 4000000 in
set_option maxRecDepth 100000 in
theorem m_X0_rankOf (l : Launch) (G : mm_G) (x1 : Int32) (I : mm_I) (L : mm_L) (Q : Int32 → mm_I → mm_L → Prop)  (hv : vc_X0_rankOf x1 I L Q) : Met l y_X0_rankOf w_X0_rankOf rm_X0_rankOf (mm_pre G [.ref (G.2.2.1 2), .int x1] I L) (mm_qi G Q) 0 0 G.2.2.2.1 := by
  refine Met.ofW (cc := c_X0_rankOf) (maxL := 2) (ret := (some .int)) (by decide) rfl ?_
  intro p e s m args below meth c s₁ B hml hw
  obtain ⟨rfl, hP, hK, hD, hC⟩ := hw
  have hts := atoms_spec (ws := w_X0_rankOf) B.pre
  have hown : s.vm.findClass RX0 = some m.cls := findClass_of_methodNamed B.named
  have hl := lv_entry ([.ref (G.2.2.1 2), .int x1]) (n := 2) (Nat.le_of_ble_eq_true rfl)
  rw [lg_entry_eq]
  generalize (lg_sl ([.ref (G.2.2.1 2), .int x1]) ++ List.replicate (2 - (lg_sl ([.ref (G.2.2.1 2), .int x1])).length) Slot.unset).toArray = ls at hl ⊢
  have hl : lv_has ls 2 [(0, .ref (G.2.2.1 2)), (1, .int x1)] := hl
  exact w_X0_rankOf_0 ⟨B.exec, B.bytes, B.returns, B.notSynchronized, hml, hown, fun w h => hts w (List.mem_cons_of_mem _ h), hK, hC⟩ x1 I L Q  hv hP hD va_S.rf hl
abbrev rm_X0_putInOrder : Room := { frames := 0, cells := 0, slots := 0, locals := 0 }
def vc_X0_putInOrder_48 (x1 : Int32) (x2 : Int32) (I : mm_I) (L : mm_L) (Q : mm_I → mm_L → Prop) : Prop :=
  vp_in x2 70 ∧ Q (mm_uI I 9 x2.toNatClampNeg x1) L
def vc_X0_putInOrder_2 : Nat → Int32 → Int32 → mm_I → mm_L → (mm_I → mm_L → Prop) → Prop
  | 0, _, _, _, _, _ => False
  | n9 + 1, x1, x2, I, L, Q => (x2 ≤ 0 → vc_X0_putInOrder_48 x1 x2 I L Q) ∧ (¬ x2 ≤ 0 → vp_in (x2 - 1) 70 ∧ vp_in (I 9 ((x2 - 1)).toNatClampNeg) 70 ∧ vp_in x1 70 ∧ ((I 8 ((I 9 ((x2 - 1)).toNatClampNeg)).toNatClampNeg) ≤ (I 8 x1.toNatClampNeg) → vc_X0_putInOrder_48 x1 x2 I L Q) ∧ (¬ (I 8 ((I 9 ((x2 - 1)).toNatClampNeg)).toNatClampNeg) ≤ (I 8 x1.toNatClampNeg) → vp_in (x2 - 1) 70 ∧ vp_in x2 70 ∧ vc_X0_putInOrder_2 n9 x1 (x2 + (-1)) (mm_uI I 9 x2.toNatClampNeg (I 9 ((x2 - 1)).toNatClampNeg)) L Q))
def vc_X0_putInOrder_0 (x1 : Int32) (I : mm_I) (L : mm_L) (Q : mm_I → mm_L → Prop) : Prop :=
  ∃ n, vc_X0_putInOrder_2 n x1 x1 I L Q
set_option maxHeartbeats 4000000 in
set_option maxRecDepth 100000 in
theorem w_X0_putInOrder_48 {p : Program} {l : Launch} {e : Env} {s : State} {m : MethodId} {args : Array Value} {below : List Frame} {meth : Method} {c : Code} {G : mm_G} (hcx : mm_cx c_X0_putInOrder none 3 RX0 G p s m args meth c) (x1 : Int32) (x2 : Int32) (I : mm_I) (L : mm_L) (Q : mm_I → mm_L → Prop)  (hv : vc_X0_putInOrder_48 x1 x2 I L Q) {H : Heap} {locs : List Loc} (hP : mm_PW G I L H) (hD : mm_DW G I L) (hS : va_S G.2.2.2.1 s.heap H locs) {ls : Array Slot} (hl : lv_has ls 3 [(0, .ref (G.2.2.1 2)), (1, .int x1), (2, .int x2)]) : W p l e (headSpec w_X0_putInOrder rm_X0_putInOrder).room s m args below meth c H locs 0 0 (MQ below (mm_qv G Q) args s 0 0 G.2.2.2.1) (F0 m 48 ls []) := by
  obtain ⟨hx, hb, hr, hlocks, hml, hown, hg, hK, hC⟩ := id hcx
  unfold vc_X0_putInOrder_48 at hv
  refine lv_aload_n hx hb d_X0_putInOrder_48 rfl (lv_at hl 0 rfl) ?_
  refine mm_gr (D := G.1) (C := RX0) (T := TX0) (N0 := 8) (r := 9) hx hb hg in_X0 hown hK hP (t := 2) (by decide) rfl rfl 6 (by decide) (hg _ k_14) (fun _ h9 => h9) rfl d_X0_putInOrder_49 ?_
  refine lv_iload_n hx hb d_X0_putInOrder_52 rfl (lv_at hl 2 rfl) ?_
  refine lv_iload_n hx hb d_X0_putInOrder_53 rfl (lv_at hl 1 rfl) ?_
  obtain ⟨h45, hv⟩ := hv
  refine mm_iast (D := G.1) hx hb hK hP hD hS (t := 9) (by decide) rfl rfl h45 d_X0_putInOrder_54 (fun H locs hP hD hS => ?_)
  exact W.vret hx hb hr (fun t ht hW => ⟨⟨((mm_uI I 9 x2.toNatClampNeg x1), L), rfl, hv, mm_mv ht hP⟩, hS.F ht⟩) hS.2.2 d_X0_putInOrder_55
set_option maxHeartbeats 4000000 in
set_option maxRecDepth 100000 in
theorem w_X0_putInOrder_2 {p : Program} {l : Launch} {e : Env} {s : State} {m : MethodId} {args : Array Value} {below : List Frame} {meth : Method} {c : Code} {G : mm_G} (hcx : mm_cx c_X0_putInOrder none 3 RX0 G p s m args meth c) (Q : mm_I → mm_L → Prop) : ∀ (n9 : Nat) (x1 : Int32) (x2 : Int32) (I : mm_I) (L : mm_L)  (H : Heap) (locs : List Loc) (ls : Array Slot), vc_X0_putInOrder_2 n9 x1 x2 I L Q → mm_PW G I L H → mm_DW G I L → va_S G.2.2.2.1 s.heap H locs → lv_has ls 3 [(0, .ref (G.2.2.1 2)), (1, .int x1), (2, .int x2)] → W p l e (headSpec w_X0_putInOrder rm_X0_putInOrder).room s m args below meth c H locs 0 0 (MQ below (mm_qv G Q) args s 0 0 G.2.2.2.1) (F0 m 2 ls []) := by
  obtain ⟨hx, hb, hr, hlocks, hml, hown, hg, hK, hC⟩ := id hcx
  intro n9
  induction n9 with
  | zero => intro x1 x2 I L H locs ls hv hP hD hS hl; exact hv.elim
  | succ n9 ih =>
    intro x1 x2 I L H locs ls hv hP hD hS hl
    rw [vc_X0_putInOrder_2] at hv
    refine lv_iload_n hx hb d_X0_putInOrder_2 rfl (lv_at hl 2 rfl) ?_
    refine lv_if_le (tgt := 48) hx hb d_X0_putInOrder_3 (by decide) (fun hc => ?_) (fun hc => ?_)
    · have hv := hv.1 hc
      exact w_X0_putInOrder_48 hcx x1 x2 I L Q  hv hP hD hS (lv_sub hl [0, 1, 2] rfl)
    · have hv := hv.2 hc
      refine lv_aload_n hx hb d_X0_putInOrder_6 rfl (lv_at hl 0 rfl) ?_
      refine mm_gr (D := G.1) (C := RX0) (T := TX0) (N0 := 8) (r := 8) hx hb hg in_X0 hown hK hP (t := 2) (by decide) rfl rfl 5 (by decide) (hg _ k_13) (fun _ h9 => h9) rfl d_X0_putInOrder_7 ?_
      refine lv_aload_n hx hb d_X0_putInOrder_10 rfl (lv_at hl 0 rfl) ?_
      refine mm_gr (D := G.1) (C := RX0) (T := TX0) (N0 := 8) (r := 9) hx hb hg in_X0 hown hK hP (t := 2) (by decide) rfl rfl 6 (by decide) (hg _ k_14) (fun _ h9 => h9) rfl d_X0_putInOrder_11 ?_
      refine lv_iload_n hx hb d_X0_putInOrder_14 rfl (lv_at hl 2 rfl) ?_
      refine lv_iconst (v := 1) hx hb d_X0_putInOrder_15 (by decide) ?_
      refine lv_isub hx hb d_X0_putInOrder_16 ?_
      obtain ⟨h40, hv⟩ := hv
      refine mm_iald (D := G.1) hx hb hK hP (t := 9) (by decide) rfl rfl h40 d_X0_putInOrder_17 ?_
      obtain ⟨h41, hv⟩ := hv
      refine mm_iald (D := G.1) hx hb hK hP (t := 8) (by decide) rfl rfl h41 d_X0_putInOrder_18 ?_
      refine lv_aload_n hx hb d_X0_putInOrder_19 rfl (lv_at hl 0 rfl) ?_
      refine mm_gr (D := G.1) (C := RX0) (T := TX0) (N0 := 8) (r := 8) hx hb hg in_X0 hown hK hP (t := 2) (by decide) rfl rfl 5 (by decide) (hg _ k_13) (fun _ h9 => h9) rfl d_X0_putInOrder_20 ?_
      refine lv_iload_n hx hb d_X0_putInOrder_23 rfl (lv_at hl 1 rfl) ?_
      obtain ⟨h42, hv⟩ := hv
      refine mm_iald (D := G.1) hx hb hK hP (t := 8) (by decide) rfl rfl h42 d_X0_putInOrder_24 ?_
      refine lv_icmp_le (tgt := 48) hx hb d_X0_putInOrder_25 (by decide) (fun hc => ?_) (fun hc => ?_)
      · have hv := hv.1 hc
        exact w_X0_putInOrder_48 hcx x1 x2 I L Q  hv hP hD hS (lv_sub hl [0, 1, 2] rfl)
      · have hv := hv.2 hc
        refine lv_aload_n hx hb d_X0_putInOrder_28 rfl (lv_at hl 0 rfl) ?_
        refine mm_gr (D := G.1) (C := RX0) (T := TX0) (N0 := 8) (r := 9) hx hb hg in_X0 hown hK hP (t := 2) (by decide) rfl rfl 6 (by decide) (hg _ k_14) (fun _ h9 => h9) rfl d_X0_putInOrder_29 ?_
        refine lv_iload_n hx hb d_X0_putInOrder_32 rfl (lv_at hl 2 rfl) ?_
        refine lv_aload_n hx hb d_X0_putInOrder_33 rfl (lv_at hl 0 rfl) ?_
        refine mm_gr (D := G.1) (C := RX0) (T := TX0) (N0 := 8) (r := 9) hx hb hg in_X0 hown hK hP (t := 2) (by decide) rfl rfl 6 (by decide) (hg _ k_14) (fun _ h9 => h9) rfl d_X0_putInOrder_34 ?_
        refine lv_iload_n hx hb d_X0_putInOrder_37 rfl (lv_at hl 2 rfl) ?_
        refine lv_iconst (v := 1) hx hb d_X0_putInOrder_38 (by decide) ?_
        refine lv_isub hx hb d_X0_putInOrder_39 ?_
        obtain ⟨h43, hv⟩ := hv
        refine mm_iald (D := G.1) hx hb hK hP (t := 9) (by decide) rfl rfl h43 d_X0_putInOrder_40 ?_
        obtain ⟨h44, hv⟩ := hv
        refine mm_iast (D := G.1) hx hb hK hP hD hS (t := 9) (by decide) rfl rfl h44 d_X0_putInOrder_41 (fun H locs hP hD hS => ?_)
        refine lv_iinc (v := (x2 + (-1))) (lv' := [(2, .int (x2 + (-1))), (0, .ref (G.2.2.1 2)), (1, .int x1)]) hx hb d_X0_putInOrder_42 hl (k := 2) rfl (by rfl) (by decide) rfl (fun ls hl => ?_)
        refine lv_goto (tgt := 2) hx hb d_X0_putInOrder_45 (by decide) ?_
        exact ih x1 (x2 + (-1)) (mm_uI I 9 x2.toNatClampNeg (I 9 ((x2 - 1)).toNatClampNeg)) L  H locs ls hv hP hD hS (lv_sub hl [1, 2, 0] rfl)
set_option maxHeartbeats 4000000 in
set_option maxRecDepth 100000 in
theorem w_X0_putInOrder_0 {p : Program} {l : Launch} {e : Env} {s : State} {m : MethodId} {args : Array Value} {below : List Frame} {meth : Method} {c : Code} {G : mm_G} (hcx : mm_cx c_X0_putInOrder none 3 RX0 G p s m args meth c) (x1 : Int32) (I : mm_I) (L : mm_L) (Q : mm_I → mm_L → Prop)  (hv : vc_X0_putInOrder_0 x1 I L Q) {H : Heap} {locs : List Loc} (hP : mm_PW G I L H) (hD : mm_DW G I L) (hS : va_S G.2.2.2.1 s.heap H locs) {ls : Array Slot} (hl : lv_has ls 3 [(0, .ref (G.2.2.1 2)), (1, .int x1)]) : W p l e (headSpec w_X0_putInOrder rm_X0_putInOrder).room s m args below meth c H locs 0 0 (MQ below (mm_qv G Q) args s 0 0 G.2.2.2.1) (F0 m 0 ls []) := by
  obtain ⟨hx, hb, hr, hlocks, hml, hown, hg, hK, hC⟩ := id hcx
  unfold vc_X0_putInOrder_0 at hv
  refine lv_iload_n hx hb d_X0_putInOrder_0 rfl (lv_at hl 1 rfl) ?_
  refine lv_istore_n (lv' := [(2, .int x1), (0, .ref (G.2.2.1 2)), (1, .int x1)]) hx hb d_X0_putInOrder_1 rfl hl (by decide) rfl (fun ls hl => ?_)
  obtain ⟨n, hv⟩ := hv
  exact w_X0_putInOrder_2 hcx Q n x1 x1 I L  H locs ls hv hP hD hS (lv_sub hl [1, 2, 0] rfl)
abbrev vc_X0_putInOrder (x1 : Int32) (I : mm_I) (L : mm_L) (Q : mm_I → mm_L → Prop) : Prop := vc_X0_putInOrder_0 x1 I L Q
set_option maxHeartbeats 4000000 in
set_option maxRecDepth 100000 in
theorem m_X0_putInOrder (l : Launch) (G : mm_G) (x1 : Int32) (I : mm_I) (L : mm_L) (Q : mm_I → mm_L → Prop)  (hv : vc_X0_putInOrder x1 I L Q) : Met l y_X0_putInOrder w_X0_putInOrder rm_X0_putInOrder (mm_pre G [.ref (G.2.2.1 2), .int x1] I L) (mm_qv G Q) 0 0 G.2.2.2.1 := by
  refine Met.ofW (cc := c_X0_putInOrder) (maxL := 3) (ret := none) (by decide) rfl ?_
  intro p e s m args below meth c s₁ B hml hw
  obtain ⟨rfl, hP, hK, hD, hC⟩ := hw
  have hts := atoms_spec (ws := w_X0_putInOrder) B.pre
  have hown : s.vm.findClass RX0 = some m.cls := findClass_of_methodNamed B.named
  have hl := lv_entry ([.ref (G.2.2.1 2), .int x1]) (n := 3) (Nat.le_of_ble_eq_true rfl)
  rw [lg_entry_eq]
  generalize (lg_sl ([.ref (G.2.2.1 2), .int x1]) ++ List.replicate (3 - (lg_sl ([.ref (G.2.2.1 2), .int x1])).length) Slot.unset).toArray = ls at hl ⊢
  have hl : lv_has ls 3 [(0, .ref (G.2.2.1 2)), (1, .int x1)] := hl
  exact w_X0_putInOrder_0 ⟨B.exec, B.bytes, B.returns, B.notSynchronized, hml, hown, fun w h => hts w (List.mem_cons_of_mem _ h), hK, hC⟩ x1 I L Q  hv hP hD va_S.rf hl
abbrev rm_X0_make : Room := { frames := 4, cells := 0, slots := 0, locals := 88 }
def vc_X0_make_178 (x5 : Int32) (x6 : Int32) (x7 : Int32) (x9 : Int32) (xs0 : Int32) (I : mm_I) (L : mm_L) (Q : Int32 → mm_I → mm_L → Prop) : Prop :=
  vc_X0_rankOf x5 I L (fun r77 I75 L76 => vc_X0_rankOf x6 I75 L76 (fun r80 I78 L79 => vc_X0_rankOf x7 I78 L79 (fun r83 I81 L82 => vp_in x9 70 ∧ vc_X0_putInOrder x9 (mm_uI I81 8 x9.toNatClampNeg (if (if xs0 < r77 then r77 else xs0) < (if r80 < r83 then r83 else r80) then (if r80 < r83 then r83 else r80) else (if xs0 < r77 then r77 else xs0))) L82 (fun I85 L86 => Q x9 (mm_uI I85 2 7 ((I85 2 7) + 1)) L86))))
def vc_X0_make_67 (x1 : Int32) (x2 : Int32) (x3 : Int32) (x4 : Int32) (x5 : Int32) (x6 : Int32) (xs0 : Int32) (I : mm_I) (L : mm_L) (Q : Int32 → mm_I → mm_L → Prop) : Prop :=
  vc_X0_levelOf x5 I L (fun r63 I61 L62 => vc_X0_levelOf x6 I61 L62 (fun r66 I64 L65 => vc_X0_levelOf xs0 I64 L65 (fun r69 I67 L68 => ((1 + (if r63 < (if r66 < r69 then r69 else r66) then (if r66 < r69 then r69 else r66) else r63)) ≤ 10 → (¬ (I67 2 7) = 70 → vp_in (I67 2 7) 70 ∧ vp_in (I67 2 7) 70 ∧ vp_in (I67 2 7) 70 ∧ vp_in (I67 2 7) 70 ∧ vp_in (I67 2 7) 70 ∧ (¬ x1 = 2 → vc_X0_make_178 x5 x6 xs0 (I67 2 7) 0 (mm_uI (mm_uI (mm_uI (mm_uI (mm_uI I67 3 ((I67 2 7)).toNatClampNeg x1) 4 ((I67 2 7)).toNatClampNeg x2) 5 ((I67 2 7)).toNatClampNeg x3) 6 ((I67 2 7)).toNatClampNeg x4) 7 ((I67 2 7)).toNatClampNeg (1 + (if r63 < (if r66 < r69 then r69 else r66) then (if r66 < r69 then r69 else r66) else r63))) L68 Q) ∧ (x1 = 2 → vc_X0_make_178 x5 x6 xs0 (I67 2 7) (x2 + 1) (mm_uI (mm_uI (mm_uI (mm_uI (mm_uI I67 3 ((I67 2 7)).toNatClampNeg x1) 4 ((I67 2 7)).toNatClampNeg x2) 5 ((I67 2 7)).toNatClampNeg x3) 6 ((I67 2 7)).toNatClampNeg x4) 7 ((I67 2 7)).toNatClampNeg (1 + (if r63 < (if r66 < r69 then r69 else r66) then (if r66 < r69 then r69 else r66) else r63))) L68 Q)) ∧ ((I67 2 7) = 70 → Q (-2) I67 L68)) ∧ (¬ (1 + (if r63 < (if r66 < r69 then r69 else r66) then (if r66 < r69 then r69 else r66) else r63)) ≤ 10 → Q (-1) I67 L68))))
def vc_X0_make_51 (x1 : Int32) (x2 : Int32) (x3 : Int32) (x4 : Int32) (x5 : Int32) (xs0 : Int32) (I : mm_I) (L : mm_L) (Q : Int32 → mm_I → mm_L → Prop) : Prop :=
  vc_X0_takesNode x1 4 I L (fun r60 I58 L59 => (r60 = 0 → vc_X0_make_67 x1 x2 x3 x4 x5 xs0 (-1) I58 L59 Q) ∧ (¬ r60 = 0 → vc_X0_make_67 x1 x2 x3 x4 x5 xs0 x4 I58 L59 Q))
def vc_X0_make_36 (x1 : Int32) (x2 : Int32) (x3 : Int32) (x4 : Int32) (xs0 : Int32) (I : mm_I) (L : mm_L) (Q : Int32 → mm_I → mm_L → Prop) : Prop :=
  vc_X0_takesNode x1 2 I L (fun r57 I55 L56 => (r57 = 0 → vc_X0_make_51 x1 x2 x3 x4 xs0 (-1) I55 L56 Q) ∧ (¬ r57 = 0 → vc_X0_make_51 x1 x2 x3 x4 xs0 x3 I55 L56 Q))
def vc_X0_make_0 (x1 : Int32) (x2 : Int32) (x3 : Int32) (x4 : Int32) (I : mm_I) (L : mm_L) (Q : Int32 → mm_I → mm_L → Prop) : Prop :=
  vc_X6_within x1 20 I L (fun r48 I46 L47 => (r48 = 0 → Q (-1) I46 L47) ∧ (¬ r48 = 0 → vc_X0_operandsFit x1 x2 x3 x4 I46 L47 (fun r51 I49 L50 => (¬ r51 = 0 → vc_X0_takesNode x1 1 I49 L50 (fun r54 I52 L53 => (r54 = 0 → vc_X0_make_36 x1 x2 x3 x4 (-1) I52 L53 Q) ∧ (¬ r54 = 0 → vc_X0_make_36 x1 x2 x3 x4 x2 I52 L53 Q))) ∧ (r51 = 0 → Q (-1) I49 L50))))
set_option maxHeartbeats 4000000 in
set_option maxRecDepth 100000 in
theorem w_X0_make_178 {p : Program} {l : Launch} {e : Env} {s : State} {m : MethodId} {args : Array Value} {below : List Frame} {meth : Method} {c : Code} {G : mm_G} (hcx : mm_cx c_X0_make (some .int) 11 RX0 G p s m args meth c) (x5 : Int32) (x6 : Int32) (x7 : Int32) (x9 : Int32) (xs0 : Int32) (I : mm_I) (L : mm_L) (Q : Int32 → mm_I → mm_L → Prop)  (hv : vc_X0_make_178 x5 x6 x7 x9 xs0 I L Q) {H : Heap} {locs : List Loc} (hP : mm_PW G I L H) (hD : mm_DW G I L) (hS : va_S G.2.2.2.1 s.heap H locs) {ls : Array Slot} (hl : lv_has ls 11 [(0, .ref (G.2.2.1 2)), (5, .int x5), (6, .int x6), (7, .int x7), (9, .int x9)]) : W p l e (headSpec w_X0_make rm_X0_make).room s m args below meth c H locs 0 0 (MQ below (mm_qi G Q) args s 0 0 G.2.2.2.1) (F0 m 178 ls [.int xs0]) := by
  obtain ⟨hx, hb, hr, hlocks, hml, hown, hg, hK, hC⟩ := id hcx
  unfold vc_X0_make_178 at hv
  refine lv_istore (lv' := [(10, .int xs0), (0, .ref (G.2.2.1 2)), (5, .int x5), (6, .int x6), (7, .int x7), (9, .int x9)]) hx hb d_X0_make_178 hl (by decide) rfl (fun ls hl => ?_)
  refine lv_aload_n hx hb d_X0_make_180 rfl (lv_at hl 1 rfl) ?_
  refine mm_gr (D := G.1) (C := RX0) (T := TX0) (N0 := 8) (r := 8) hx hb hg in_X0 hown hK hP (t := 2) (by decide) rfl rfl 5 (by decide) (hg _ k_13) (fun _ h9 => h9) rfl d_X0_make_181 ?_
  refine lv_iload hx hb d_X0_make_184 (lv_at hl 5 rfl) ?_
  refine lv_iload hx hb d_X0_make_186 (lv_at hl 0 rfl) ?_
  refine lv_aload_n hx hb d_X0_make_188 rfl (lv_at hl 1 rfl) ?_
  refine lv_iload hx hb d_X0_make_189 (lv_at hl 2 rfl) ?_
  refine va_calli (va_runV (As := [.int x5]) (rest := [.int xs0, .int x9, .ref (G.2.2.1 8)]) ⟨hx, hb, hml, hown, hg⟩ (m_X0_rankOf l G x5 I L _  hv) (cwV 1 hg (mm_gV k_31 k_32 k_33 k_6 kc_X0_rankOf) rfl rfl rfl (by decide +kernel) ⟨Nat.le_of_ble_eq_true rfl, Nat.le_of_ble_eq_true rfl⟩) ⟨mm_blind, mm_recv hK hP (t := 2) (by decide) rfl rfl, fun U hU hW => mm_call hP hK hD hC hU hS hW⟩ rfl rfl hl.1 rfl (lv_room (Nat.le_of_ble_eq_true rfl)) d_X0_make_191 ⟨Nat.zero_le _, Nat.zero_le _⟩) hS (fun q _ h => h) (fun q h => h) (fun r77 u t H locs ht hvm hv hP hz1 hk1 hS => ?_)
  obtain ⟨I75, L76⟩ := u
  dsimp only at hv hP
  rw [ht] at hP
  have hD : mm_DW G I75 L76 := mm_D_any hD
  refine va_mmax hx hb (by rw [hml]; exact hl.1.symm) hown (hg _ k_18) (hg _ k_19) (hg _ k_20) (hg _ kc_max) (Nat.le_of_ble_eq_true rfl) (Nat.le_of_ble_eq_true rfl) (Nat.zero_le _) (Nat.zero_le _) d_X0_make_194 ?_
  refine lv_aload_n hx hb d_X0_make_197 rfl (lv_at hl 1 rfl) ?_
  refine lv_iload hx hb d_X0_make_198 (lv_at hl 3 rfl) ?_
  refine va_calli (va_runV (As := [.int x6]) (rest := [.int (if xs0 < r77 then r77 else xs0), .int x9, .ref (G.2.2.1 8)]) ⟨hx, hb, hml, hown, hg⟩ (m_X0_rankOf l G x6 I75 L76 _  hv) (cwV 1 hg (mm_gV k_31 k_32 k_33 k_6 kc_X0_rankOf) rfl rfl rfl (by decide +kernel) ⟨Nat.le_of_ble_eq_true rfl, Nat.le_of_ble_eq_true rfl⟩) ⟨mm_blind, mm_recv hK hP (t := 2) (by decide) rfl rfl, fun U hU hW => mm_call hP hK hD hC hU hS hW⟩ rfl rfl hl.1 rfl (lv_room (Nat.le_of_ble_eq_true rfl)) d_X0_make_200 ⟨Nat.zero_le _, Nat.zero_le _⟩) hS (fun q _ h => h) (fun q h => h) (fun r80 u t H locs ht hvm hv hP hz1 hk1 hS => ?_)
  obtain ⟨I78, L79⟩ := u
  dsimp only at hv hP
  rw [ht] at hP
  have hD : mm_DW G I78 L79 := mm_D_any hD
  refine lv_aload_n hx hb d_X0_make_203 rfl (lv_at hl 1 rfl) ?_
  refine lv_iload hx hb d_X0_make_204 (lv_at hl 4 rfl) ?_
  refine va_calli (va_runV (As := [.int x7]) (rest := [.int r80, .int (if xs0 < r77 then r77 else xs0), .int x9, .ref (G.2.2.1 8)]) ⟨hx, hb, hml, hown, hg⟩ (m_X0_rankOf l G x7 I78 L79 _  hv) (cwV 1 hg (mm_gV k_31 k_32 k_33 k_6 kc_X0_rankOf) rfl rfl rfl (by decide +kernel) ⟨Nat.le_of_ble_eq_true rfl, Nat.le_of_ble_eq_true rfl⟩) ⟨mm_blind, mm_recv hK hP (t := 2) (by decide) rfl rfl, fun U hU hW => mm_call hP hK hD hC hU hS hW⟩ rfl rfl hl.1 rfl (lv_room (Nat.le_of_ble_eq_true rfl)) d_X0_make_206 ⟨Nat.zero_le _, Nat.zero_le _⟩) hS (fun q _ h => h) (fun q h => h) (fun r83 u t H locs ht hvm hv hP hz1 hk1 hS => ?_)
  obtain ⟨I81, L82⟩ := u
  dsimp only at hv hP
  rw [ht] at hP
  have hD : mm_DW G I81 L82 := mm_D_any hD
  refine va_mmax hx hb (by rw [hml]; exact hl.1.symm) hown (hg _ k_18) (hg _ k_19) (hg _ k_20) (hg _ kc_max) (Nat.le_of_ble_eq_true rfl) (Nat.le_of_ble_eq_true rfl) (Nat.zero_le _) (Nat.zero_le _) d_X0_make_209 ?_
  refine va_mmax hx hb (by rw [hml]; exact hl.1.symm) hown (hg _ k_18) (hg _ k_19) (hg _ k_20) (hg _ kc_max) (Nat.le_of_ble_eq_true rfl) (Nat.le_of_ble_eq_true rfl) (Nat.zero_le _) (Nat.zero_le _) d_X0_make_212 ?_
  obtain ⟨h84, hv⟩ := hv
  refine mm_iast (D := G.1) hx hb hK hP hD hS (t := 8) (by decide) rfl rfl h84 d_X0_make_215 (fun H locs hP hD hS => ?_)
  refine lv_aload_n hx hb d_X0_make_216 rfl (lv_at hl 1 rfl) ?_
  refine lv_iload hx hb d_X0_make_217 (lv_at hl 5 rfl) ?_
  refine va_callv (va_runV (As := [.int x9]) (rest := []) ⟨hx, hb, hml, hown, hg⟩ (m_X0_putInOrder l G x9 (mm_uI I81 8 x9.toNatClampNeg (if (if xs0 < r77 then r77 else xs0) < (if r80 < r83 then r83 else r80) then (if r80 < r83 then r83 else r80) else (if xs0 < r77 then r77 else xs0))) L82 _  hv) (cwV 1 hg (mm_gV k_28 k_29 k_30 k_6 kc_X0_putInOrder) rfl rfl rfl (by decide +kernel) ⟨Nat.le_of_ble_eq_true rfl, Nat.le_of_ble_eq_true rfl⟩) ⟨mm_blind, mm_recv hK hP (t := 2) (by decide) rfl rfl, fun U hU hW => mm_call hP hK hD hC hU hS hW⟩ rfl rfl hl.1 rfl (lv_room (Nat.le_of_ble_eq_true rfl)) d_X0_make_219 ⟨Nat.zero_le _, Nat.zero_le _⟩) hS (fun q _ h => h) (fun q h => h) (fun u t H locs ht hvm hv hP hz1 hk1 hS => ?_)
  obtain ⟨I85, L86⟩ := u
  dsimp only at hv hP
  rw [ht] at hP
  have hD : mm_DW G I85 L86 := mm_D_any hD
  refine lv_aload_n hx hb d_X0_make_222 rfl (lv_at hl 1 rfl) ?_
  refine lv_dup hx hb d_X0_make_223 rfl ?_
  refine mm_gi (D := G.1) (C := RX0) (T := TX0) (N0 := 8) hx hb hg in_X0 hown hK hP (t := 2) (by decide) rfl rfl 7 (by decide) (hg _ k_0) (fun _ h9 => h9) rfl d_X0_make_224 ?_
  refine lv_iconst (v := 1) hx hb d_X0_make_227 (by decide) ?_
  refine lv_iadd hx hb d_X0_make_228 ?_
  refine mm_pi (D := G.1) (C := RX0) (T := TX0) (N0 := 8) (ty := .int) hx hb hg in_X0 tyX0 tyX0_ok nmX0 hown hK hP hD hS (t := 2) (by decide) rfl rfl 7 (by decide) (hg _ k_0) (fun _ h9 => h9) rfl (by decide +kernel) rfl rfl rfl d_X0_make_229 (fun H locs hP hD hS => ?_)
  refine lv_iload hx hb d_X0_make_232 (lv_at hl 5 rfl) ?_
  exact W.iret (v := x9) hx hb hr (fun t ht hW => ⟨⟨x9, ((mm_uI I85 2 7 ((I85 2 7) + 1)), L86), rfl, hv, mm_mv ht hP⟩, hS.F ht⟩) hS.2.2 d_X0_make_234
set_option maxHeartbeats 4000000 in
set_option maxRecDepth 100000 in
theorem w_X0_make_67 {p : Program} {l : Launch} {e : Env} {s : State} {m : MethodId} {args : Array Value} {below : List Frame} {meth : Method} {c : Code} {G : mm_G} (hcx : mm_cx c_X0_make (some .int) 11 RX0 G p s m args meth c) (x1 : Int32) (x2 : Int32) (x3 : Int32) (x4 : Int32) (x5 : Int32) (x6 : Int32) (xs0 : Int32) (I : mm_I) (L : mm_L) (Q : Int32 → mm_I → mm_L → Prop)  (hv : vc_X0_make_67 x1 x2 x3 x4 x5 x6 xs0 I L Q) {H : Heap} {locs : List Loc} (hP : mm_PW G I L H) (hD : mm_DW G I L) (hS : va_S G.2.2.2.1 s.heap H locs) {ls : Array Slot} (hl : lv_has ls 11 [(0, .ref (G.2.2.1 2)), (1, .int x1), (2, .int x2), (3, .int x3), (4, .int x4), (5, .int x5), (6, .int x6)]) : W p l e (headSpec w_X0_make rm_X0_make).room s m args below meth c H locs 0 0 (MQ below (mm_qi G Q) args s 0 0 G.2.2.2.1) (F0 m 67 ls [.int xs0]) := by
  obtain ⟨hx, hb, hr, hlocks, hml, hown, hg, hK, hC⟩ := id hcx
  unfold vc_X0_make_67 at hv
  refine lv_istore (lv' := [(7, .int xs0), (0, .ref (G.2.2.1 2)), (1, .int x1), (2, .int x2), (3, .int x3), (4, .int x4), (5, .int x5), (6, .int x6)]) hx hb d_X0_make_67 hl (by decide) rfl (fun ls hl => ?_)
  refine lv_iconst (v := 1) hx hb d_X0_make_69 (by decide) ?_
  refine lv_aload_n hx hb d_X0_make_70 rfl (lv_at hl 1 rfl) ?_
  refine lv_iload hx hb d_X0_make_71 (lv_at hl 6 rfl) ?_
  refine va_calli (va_runV (As := [.int x5]) (rest := [.int 1]) ⟨hx, hb, hml, hown, hg⟩ (m_X0_levelOf l G x5 I L _  hv) (cwV 1 hg (mm_gV k_25 k_26 k_27 k_6 kc_X0_levelOf) rfl rfl rfl (by decide +kernel) ⟨Nat.le_of_ble_eq_true rfl, Nat.le_of_ble_eq_true rfl⟩) ⟨mm_blind, mm_recv hK hP (t := 2) (by decide) rfl rfl, fun U hU hW => mm_call hP hK hD hC hU hS hW⟩ rfl rfl hl.1 rfl (lv_room (Nat.le_of_ble_eq_true rfl)) d_X0_make_73 ⟨Nat.zero_le _, Nat.zero_le _⟩) hS (fun q _ h => h) (fun q h => h) (fun r63 u t H locs ht hvm hv hP hz1 hk1 hS => ?_)
  obtain ⟨I61, L62⟩ := u
  dsimp only at hv hP
  rw [ht] at hP
  have hD : mm_DW G I61 L62 := mm_D_any hD
  refine lv_aload_n hx hb d_X0_make_76 rfl (lv_at hl 1 rfl) ?_
  refine lv_iload hx hb d_X0_make_77 (lv_at hl 7 rfl) ?_
  refine va_calli (va_runV (As := [.int x6]) (rest := [.int r63, .int 1]) ⟨hx, hb, hml, hown, hg⟩ (m_X0_levelOf l G x6 I61 L62 _  hv) (cwV 1 hg (mm_gV k_25 k_26 k_27 k_6 kc_X0_levelOf) rfl rfl rfl (by decide +kernel) ⟨Nat.le_of_ble_eq_true rfl, Nat.le_of_ble_eq_true rfl⟩) ⟨mm_blind, mm_recv hK hP (t := 2) (by decide) rfl rfl, fun U hU hW => mm_call hP hK hD hC hU hS hW⟩ rfl rfl hl.1 rfl (lv_room (Nat.le_of_ble_eq_true rfl)) d_X0_make_79 ⟨Nat.zero_le _, Nat.zero_le _⟩) hS (fun q _ h => h) (fun q h => h) (fun r66 u t H locs ht hvm hv hP hz1 hk1 hS => ?_)
  obtain ⟨I64, L65⟩ := u
  dsimp only at hv hP
  rw [ht] at hP
  have hD : mm_DW G I64 L65 := mm_D_any hD
  refine lv_aload_n hx hb d_X0_make_82 rfl (lv_at hl 1 rfl) ?_
  refine lv_iload hx hb d_X0_make_83 (lv_at hl 0 rfl) ?_
  refine va_calli (va_runV (As := [.int xs0]) (rest := [.int r66, .int r63, .int 1]) ⟨hx, hb, hml, hown, hg⟩ (m_X0_levelOf l G xs0 I64 L65 _  hv) (cwV 1 hg (mm_gV k_25 k_26 k_27 k_6 kc_X0_levelOf) rfl rfl rfl (by decide +kernel) ⟨Nat.le_of_ble_eq_true rfl, Nat.le_of_ble_eq_true rfl⟩) ⟨mm_blind, mm_recv hK hP (t := 2) (by decide) rfl rfl, fun U hU hW => mm_call hP hK hD hC hU hS hW⟩ rfl rfl hl.1 rfl (lv_room (Nat.le_of_ble_eq_true rfl)) d_X0_make_85 ⟨Nat.zero_le _, Nat.zero_le _⟩) hS (fun q _ h => h) (fun q h => h) (fun r69 u t H locs ht hvm hv hP hz1 hk1 hS => ?_)
  obtain ⟨I67, L68⟩ := u
  dsimp only at hv hP
  rw [ht] at hP
  have hD : mm_DW G I67 L68 := mm_D_any hD
  refine va_mmax hx hb (by rw [hml]; exact hl.1.symm) hown (hg _ k_18) (hg _ k_19) (hg _ k_20) (hg _ kc_max) (Nat.le_of_ble_eq_true rfl) (Nat.le_of_ble_eq_true rfl) (Nat.zero_le _) (Nat.zero_le _) d_X0_make_88 ?_
  refine va_mmax hx hb (by rw [hml]; exact hl.1.symm) hown (hg _ k_18) (hg _ k_19) (hg _ k_20) (hg _ kc_max) (Nat.le_of_ble_eq_true rfl) (Nat.le_of_ble_eq_true rfl) (Nat.zero_le _) (Nat.zero_le _) d_X0_make_91 ?_
  refine lv_iadd hx hb d_X0_make_94 ?_
  refine lv_istore (lv' := [(8, .int (1 + (if r63 < (if r66 < r69 then r69 else r66) then (if r66 < r69 then r69 else r66) else r63))), (7, .int xs0), (0, .ref (G.2.2.1 2)), (1, .int x1), (2, .int x2), (3, .int x3), (4, .int x4), (5, .int x5), (6, .int x6)]) hx hb d_X0_make_95 hl (by decide) rfl (fun ls hl => ?_)
  refine lv_iload hx hb d_X0_make_97 (lv_at hl 0 rfl) ?_
  refine lv_bipush (v := 10) hx hb d_X0_make_99 (by decide) ?_
  refine lv_icmp_le (tgt := 106) hx hb d_X0_make_101 (by decide) (fun hc => ?_) (fun hc => ?_)
  · have hv := hv.1 hc
    refine lv_aload_n hx hb d_X0_make_106 rfl (lv_at hl 2 rfl) ?_
    refine mm_gi (D := G.1) (C := RX0) (T := TX0) (N0 := 8) hx hb hg in_X0 hown hK hP (t := 2) (by decide) rfl rfl 7 (by decide) (hg _ k_0) (fun _ h9 => h9) rfl d_X0_make_107 ?_
    refine lv_bipush (v := 70) hx hb d_X0_make_110 (by decide) ?_
    refine lv_icmp_ne (tgt := 118) hx hb d_X0_make_112 (by decide) (fun hc => ?_) (fun hc => ?_)
    · have hv := hv.1 hc
      refine lv_aload_n hx hb d_X0_make_118 rfl (lv_at hl 2 rfl) ?_
      refine mm_gi (D := G.1) (C := RX0) (T := TX0) (N0 := 8) hx hb hg in_X0 hown hK hP (t := 2) (by decide) rfl rfl 7 (by decide) (hg _ k_0) (fun _ h9 => h9) rfl d_X0_make_119 ?_
      refine lv_istore (lv' := [(9, .int (I67 2 7)), (8, .int (1 + (if r63 < (if r66 < r69 then r69 else r66) then (if r66 < r69 then r69 else r66) else r63))), (7, .int xs0), (0, .ref (G.2.2.1 2)), (1, .int x1), (2, .int x2), (3, .int x3), (4, .int x4), (5, .int x5), (6, .int x6)]) hx hb d_X0_make_122 hl (by decide) rfl (fun ls hl => ?_)
      refine lv_aload_n hx hb d_X0_make_124 rfl (lv_at hl 3 rfl) ?_
      refine mm_gr (D := G.1) (C := RX0) (T := TX0) (N0 := 8) (r := 3) hx hb hg in_X0 hown hK hP (t := 2) (by decide) rfl rfl 0 (by decide) (hg _ k_21) (fun _ h9 => h9) rfl d_X0_make_125 ?_
      refine lv_iload hx hb d_X0_make_128 (lv_at hl 0 rfl) ?_
      refine lv_iload_n hx hb d_X0_make_130 rfl (lv_at hl 4 rfl) ?_
      obtain ⟨h70, hv⟩ := hv
      refine mm_iast (D := G.1) hx hb hK hP hD hS (t := 3) (by decide) rfl rfl h70 d_X0_make_131 (fun H locs hP hD hS => ?_)
      refine lv_aload_n hx hb d_X0_make_132 rfl (lv_at hl 3 rfl) ?_
      refine mm_gr (D := G.1) (C := RX0) (T := TX0) (N0 := 8) (r := 4) hx hb hg in_X0 hown hK hP (t := 2) (by decide) rfl rfl 1 (by decide) (hg _ k_22) (fun _ h9 => h9) rfl d_X0_make_133 ?_
      refine lv_iload hx hb d_X0_make_136 (lv_at hl 0 rfl) ?_
      refine lv_iload_n hx hb d_X0_make_138 rfl (lv_at hl 5 rfl) ?_
      obtain ⟨h71, hv⟩ := hv
      refine mm_iast (D := G.1) hx hb hK hP hD hS (t := 4) (by decide) rfl rfl h71 d_X0_make_139 (fun H locs hP hD hS => ?_)
      refine lv_aload_n hx hb d_X0_make_140 rfl (lv_at hl 3 rfl) ?_
      refine mm_gr (D := G.1) (C := RX0) (T := TX0) (N0 := 8) (r := 5) hx hb hg in_X0 hown hK hP (t := 2) (by decide) rfl rfl 2 (by decide) (hg _ k_23) (fun _ h9 => h9) rfl d_X0_make_141 ?_
      refine lv_iload hx hb d_X0_make_144 (lv_at hl 0 rfl) ?_
      refine lv_iload_n hx hb d_X0_make_146 rfl (lv_at hl 6 rfl) ?_
      obtain ⟨h72, hv⟩ := hv
      refine mm_iast (D := G.1) hx hb hK hP hD hS (t := 5) (by decide) rfl rfl h72 d_X0_make_147 (fun H locs hP hD hS => ?_)
      refine lv_aload_n hx hb d_X0_make_148 rfl (lv_at hl 3 rfl) ?_
      refine mm_gr (D := G.1) (C := RX0) (T := TX0) (N0 := 8) (r := 6) hx hb hg in_X0 hown hK hP (t := 2) (by decide) rfl rfl 3 (by decide) (hg _ k_24) (fun _ h9 => h9) rfl d_X0_make_149 ?_
      refine lv_iload hx hb d_X0_make_152 (lv_at hl 0 rfl) ?_
      refine lv_iload hx hb d_X0_make_154 (lv_at hl 7 rfl) ?_
      obtain ⟨h73, hv⟩ := hv
      refine mm_iast (D := G.1) hx hb hK hP hD hS (t := 6) (by decide) rfl rfl h73 d_X0_make_156 (fun H locs hP hD hS => ?_)
      refine lv_aload_n hx hb d_X0_make_157 rfl (lv_at hl 3 rfl) ?_
      refine mm_gr (D := G.1) (C := RX0) (T := TX0) (N0 := 8) (r := 7) hx hb hg in_X0 hown hK hP (t := 2) (by decide) rfl rfl 4 (by decide) (hg _ k_12) (fun _ h9 => h9) rfl d_X0_make_158 ?_
      refine lv_iload hx hb d_X0_make_161 (lv_at hl 0 rfl) ?_
      refine lv_iload hx hb d_X0_make_163 (lv_at hl 1 rfl) ?_
      obtain ⟨h74, hv⟩ := hv
      refine mm_iast (D := G.1) hx hb hK hP hD hS (t := 7) (by decide) rfl rfl h74 d_X0_make_165 (fun H locs hP hD hS => ?_)
      refine lv_iload_n hx hb d_X0_make_166 rfl (lv_at hl 4 rfl) ?_
      refine lv_iconst (v := 2) hx hb d_X0_make_167 (by decide) ?_
      refine lv_icmp_ne (tgt := 177) hx hb d_X0_make_168 (by decide) (fun hc => ?_) (fun hc => ?_)
      · have hv := hv.1 hc
        refine lv_iconst (v := 0) hx hb d_X0_make_177 (by decide) ?_
        exact w_X0_make_178 hcx x5 x6 xs0 (I67 2 7) 0 (mm_uI (mm_uI (mm_uI (mm_uI (mm_uI I67 3 ((I67 2 7)).toNatClampNeg x1) 4 ((I67 2 7)).toNatClampNeg x2) 5 ((I67 2 7)).toNatClampNeg x3) 6 ((I67 2 7)).toNatClampNeg x4) 7 ((I67 2 7)).toNatClampNeg (1 + (if r63 < (if r66 < r69 then r69 else r66) then (if r66 < r69 then r69 else r66) else r63))) L68 Q  hv hP hD hS (lv_sub hl [3, 8, 9, 2, 0] rfl)
      · have hv := hv.2 hc
        refine lv_iload_n hx hb d_X0_make_171 rfl (lv_at hl 5 rfl) ?_
        refine lv_iconst (v := 1) hx hb d_X0_make_172 (by decide) ?_
        refine lv_iadd hx hb d_X0_make_173 ?_
        refine lv_goto (tgt := 178) hx hb d_X0_make_174 (by decide) ?_
        exact w_X0_make_178 hcx x5 x6 xs0 (I67 2 7) (x2 + 1) (mm_uI (mm_uI (mm_uI (mm_uI (mm_uI I67 3 ((I67 2 7)).toNatClampNeg x1) 4 ((I67 2 7)).toNatClampNeg x2) 5 ((I67 2 7)).toNatClampNeg x3) 6 ((I67 2 7)).toNatClampNeg x4) 7 ((I67 2 7)).toNatClampNeg (1 + (if r63 < (if r66 < r69 then r69 else r66) then (if r66 < r69 then r69 else r66) else r63))) L68 Q  hv hP hD hS (lv_sub hl [3, 8, 9, 2, 0] rfl)
    · have hv := hv.2 hc
      refine lv_bipush (v := (-2)) hx hb d_X0_make_115 (by decide) ?_
      exact W.iret (v := (-2)) hx hb hr (fun t ht hW => ⟨⟨(-2), (I67, L68), rfl, hv, mm_mv ht hP⟩, hS.F ht⟩) hS.2.2 d_X0_make_117
  · have hv := hv.2 hc
    refine lv_iconst (v := (-1)) hx hb d_X0_make_104 (by decide) ?_
    exact W.iret (v := (-1)) hx hb hr (fun t ht hW => ⟨⟨(-1), (I67, L68), rfl, hv, mm_mv ht hP⟩, hS.F ht⟩) hS.2.2 d_X0_make_105
set_option maxHeartbeats 4000000 in
set_option maxRecDepth 100000 in
theorem w_X0_make_51 {p : Program} {l : Launch} {e : Env} {s : State} {m : MethodId} {args : Array Value} {below : List Frame} {meth : Method} {c : Code} {G : mm_G} (hcx : mm_cx c_X0_make (some .int) 11 RX0 G p s m args meth c) (x1 : Int32) (x2 : Int32) (x3 : Int32) (x4 : Int32) (x5 : Int32) (xs0 : Int32) (I : mm_I) (L : mm_L) (Q : Int32 → mm_I → mm_L → Prop)  (hv : vc_X0_make_51 x1 x2 x3 x4 x5 xs0 I L Q) {H : Heap} {locs : List Loc} (hP : mm_PW G I L H) (hD : mm_DW G I L) (hS : va_S G.2.2.2.1 s.heap H locs) {ls : Array Slot} (hl : lv_has ls 11 [(0, .ref (G.2.2.1 2)), (1, .int x1), (2, .int x2), (3, .int x3), (4, .int x4), (5, .int x5)]) : W p l e (headSpec w_X0_make rm_X0_make).room s m args below meth c H locs 0 0 (MQ below (mm_qi G Q) args s 0 0 G.2.2.2.1) (F0 m 51 ls [.int xs0]) := by
  obtain ⟨hx, hb, hr, hlocks, hml, hown, hg, hK, hC⟩ := id hcx
  unfold vc_X0_make_51 at hv
  refine lv_istore (lv' := [(6, .int xs0), (0, .ref (G.2.2.1 2)), (1, .int x1), (2, .int x2), (3, .int x3), (4, .int x4), (5, .int x5)]) hx hb d_X0_make_51 hl (by decide) rfl (fun ls hl => ?_)
  refine lv_iload_n hx hb d_X0_make_53 rfl (lv_at hl 2 rfl) ?_
  refine lv_iconst (v := 4) hx hb d_X0_make_54 (by decide) ?_
  refine va_calli (va_runS (As := [.int x1, .int 4]) (rest := []) ⟨hx, hb, hml, hown, hg⟩ (m_X0_takesNode l G x1 4 I L _  hv) (va_cwS 2 hg (mm_gS k_7 k_8 k_6 kc_X0_takesNode) rfl rfl rfl (by decide +kernel) ⟨Nat.le_of_ble_eq_true rfl, Nat.le_of_ble_eq_true rfl⟩) ⟨mm_blind, fun U hU hW => mm_call hP hK hD hC hU hS hW⟩ rfl rfl hl.1 rfl (lv_room (Nat.le_of_ble_eq_true rfl)) d_X0_make_55 ⟨Nat.zero_le _, Nat.zero_le _⟩) hS (fun q _ h => h) (fun q h => h) (fun r60 u t H locs ht hvm hv hP hz1 hk1 hS => ?_)
  obtain ⟨I58, L59⟩ := u
  dsimp only at hv hP
  rw [ht] at hP
  have hD : mm_DW G I58 L59 := mm_D_any hD
  refine lv_if_eq (tgt := 66) hx hb d_X0_make_58 (by decide) (fun hc => ?_) (fun hc => ?_)
  · have hv := hv.1 hc
    refine lv_iconst (v := (-1)) hx hb d_X0_make_66 (by decide) ?_
    exact w_X0_make_67 hcx x1 x2 x3 x4 x5 xs0 (-1) I58 L59 Q  hv hP hD hS (lv_sub hl [1, 2, 3, 4, 5, 6, 0] rfl)
  · have hv := hv.2 hc
    refine lv_iload hx hb d_X0_make_61 (lv_at hl 5 rfl) ?_
    refine lv_goto (tgt := 67) hx hb d_X0_make_63 (by decide) ?_
    exact w_X0_make_67 hcx x1 x2 x3 x4 x5 xs0 x4 I58 L59 Q  hv hP hD hS (lv_sub hl [1, 2, 3, 4, 5, 6, 0] rfl)
set_option maxHeartbeats 4000000 in
set_option maxRecDepth 100000 in
theorem w_X0_make_36 {p : Program} {l : Launch} {e : Env} {s : State} {m : MethodId} {args : Array Value} {below : List Frame} {meth : Method} {c : Code} {G : mm_G} (hcx : mm_cx c_X0_make (some .int) 11 RX0 G p s m args meth c) (x1 : Int32) (x2 : Int32) (x3 : Int32) (x4 : Int32) (xs0 : Int32) (I : mm_I) (L : mm_L) (Q : Int32 → mm_I → mm_L → Prop)  (hv : vc_X0_make_36 x1 x2 x3 x4 xs0 I L Q) {H : Heap} {locs : List Loc} (hP : mm_PW G I L H) (hD : mm_DW G I L) (hS : va_S G.2.2.2.1 s.heap H locs) {ls : Array Slot} (hl : lv_has ls 11 [(0, .ref (G.2.2.1 2)), (1, .int x1), (2, .int x2), (3, .int x3), (4, .int x4)]) : W p l e (headSpec w_X0_make rm_X0_make).room s m args below meth c H locs 0 0 (MQ below (mm_qi G Q) args s 0 0 G.2.2.2.1) (F0 m 36 ls [.int xs0]) := by
  obtain ⟨hx, hb, hr, hlocks, hml, hown, hg, hK, hC⟩ := id hcx
  unfold vc_X0_make_36 at hv
  refine lv_istore (lv' := [(5, .int xs0), (0, .ref (G.2.2.1 2)), (1, .int x1), (2, .int x2), (3, .int x3), (4, .int x4)]) hx hb d_X0_make_36 hl (by decide) rfl (fun ls hl => ?_)
  refine lv_iload_n hx hb d_X0_make_38 rfl (lv_at hl 2 rfl) ?_
  refine lv_iconst (v := 2) hx hb d_X0_make_39 (by decide) ?_
  refine va_calli (va_runS (As := [.int x1, .int 2]) (rest := []) ⟨hx, hb, hml, hown, hg⟩ (m_X0_takesNode l G x1 2 I L _  hv) (va_cwS 2 hg (mm_gS k_7 k_8 k_6 kc_X0_takesNode) rfl rfl rfl (by decide +kernel) ⟨Nat.le_of_ble_eq_true rfl, Nat.le_of_ble_eq_true rfl⟩) ⟨mm_blind, fun U hU hW => mm_call hP hK hD hC hU hS hW⟩ rfl rfl hl.1 rfl (lv_room (Nat.le_of_ble_eq_true rfl)) d_X0_make_40 ⟨Nat.zero_le _, Nat.zero_le _⟩) hS (fun q _ h => h) (fun q h => h) (fun r57 u t H locs ht hvm hv hP hz1 hk1 hS => ?_)
  obtain ⟨I55, L56⟩ := u
  dsimp only at hv hP
  rw [ht] at hP
  have hD : mm_DW G I55 L56 := mm_D_any hD
  refine lv_if_eq (tgt := 50) hx hb d_X0_make_43 (by decide) (fun hc => ?_) (fun hc => ?_)
  · have hv := hv.1 hc
    refine lv_iconst (v := (-1)) hx hb d_X0_make_50 (by decide) ?_
    exact w_X0_make_51 hcx x1 x2 x3 x4 xs0 (-1) I55 L56 Q  hv hP hD hS (lv_sub hl [1, 2, 3, 4, 5, 0] rfl)
  · have hv := hv.2 hc
    refine lv_iload_n hx hb d_X0_make_46 rfl (lv_at hl 4 rfl) ?_
    refine lv_goto (tgt := 51) hx hb d_X0_make_47 (by decide) ?_
    exact w_X0_make_51 hcx x1 x2 x3 x4 xs0 x3 I55 L56 Q  hv hP hD hS (lv_sub hl [1, 2, 3, 4, 5, 0] rfl)
set_option maxHeartbeats 4000000 in
set_option maxRecDepth 100000 in
theorem w_X0_make_0 {p : Program} {l : Launch} {e : Env} {s : State} {m : MethodId} {args : Array Value} {below : List Frame} {meth : Method} {c : Code} {G : mm_G} (hcx : mm_cx c_X0_make (some .int) 11 RX0 G p s m args meth c) (x1 : Int32) (x2 : Int32) (x3 : Int32) (x4 : Int32) (I : mm_I) (L : mm_L) (Q : Int32 → mm_I → mm_L → Prop)  (hv : vc_X0_make_0 x1 x2 x3 x4 I L Q) {H : Heap} {locs : List Loc} (hP : mm_PW G I L H) (hD : mm_DW G I L) (hS : va_S G.2.2.2.1 s.heap H locs) {ls : Array Slot} (hl : lv_has ls 11 [(0, .ref (G.2.2.1 2)), (1, .int x1), (2, .int x2), (3, .int x3), (4, .int x4)]) : W p l e (headSpec w_X0_make rm_X0_make).room s m args below meth c H locs 0 0 (MQ below (mm_qi G Q) args s 0 0 G.2.2.2.1) (F0 m 0 ls []) := by
  obtain ⟨hx, hb, hr, hlocks, hml, hown, hg, hK, hC⟩ := id hcx
  unfold vc_X0_make_0 at hv
  refine lv_iload_n hx hb d_X0_make_0 rfl (lv_at hl 1 rfl) ?_
  refine lv_bipush (v := 20) hx hb d_X0_make_1 (by decide) ?_
  refine va_calli (va_runSN (As := [.int x1, .int 20]) (rest := []) ⟨hx, hb, hml, hown, hg⟩ (m_X6_within l G x1 20 I L _  hv) ⟨va_cnB 2 hg (mm_g1 kc_X6_within mm_GW_self) rfl rfl rfl (nw_4 hC.2.2) (hg _ k_1) (by decide +kernel) ⟨Nat.le_of_ble_eq_true rfl, Nat.le_of_ble_eq_true rfl⟩, hg _ k_2, trivial⟩ ⟨mm_blind, fun U hU hW => mm_call hP hK hD hC hU hS hW⟩ rfl rfl hl.1 rfl (lv_room (Nat.le_of_ble_eq_true rfl)) d_X0_make_3 ⟨Nat.zero_le _, Nat.zero_le _⟩) hS (fun q _ h => h) (fun q h => h) (fun r48 u t H locs ht hvm hv hP hz1 hk1 hS => ?_)
  obtain ⟨I46, L47⟩ := u
  dsimp only at hv hP
  rw [ht] at hP
  have hD : mm_DW G I46 L47 := mm_D_any hD
  refine lv_if_eq (tgt := 21) hx hb d_X0_make_6 (by decide) (fun hc => ?_) (fun hc => ?_)
  · have hv := hv.1 hc
    refine lv_iconst (v := (-1)) hx hb d_X0_make_21 (by decide) ?_
    exact W.iret (v := (-1)) hx hb hr (fun t ht hW => ⟨⟨(-1), (I46, L47), rfl, hv, mm_mv ht hP⟩, hS.F ht⟩) hS.2.2 d_X0_make_22
  · have hv := hv.2 hc
    refine lv_aload_n hx hb d_X0_make_9 rfl (lv_at hl 0 rfl) ?_
    refine lv_iload_n hx hb d_X0_make_10 rfl (lv_at hl 1 rfl) ?_
    refine lv_iload_n hx hb d_X0_make_11 rfl (lv_at hl 2 rfl) ?_
    refine lv_iload_n hx hb d_X0_make_12 rfl (lv_at hl 3 rfl) ?_
    refine lv_iload hx hb d_X0_make_13 (lv_at hl 4 rfl) ?_
    refine va_calli (va_runV (As := [.int x1, .int x2, .int x3, .int x4]) (rest := []) ⟨hx, hb, hml, hown, hg⟩ (m_X0_operandsFit l G x1 x2 x3 x4 I46 L47 _  hv) (cwV 4 hg (mm_gV k_15 k_16 k_17 k_6 kc_X0_operandsFit) rfl rfl rfl (by decide +kernel) ⟨Nat.le_of_ble_eq_true rfl, Nat.le_of_ble_eq_true rfl⟩) ⟨mm_blind, mm_recv hK hP (t := 2) (by decide) rfl rfl, fun U hU hW => mm_call hP hK hD hC hU hS hW⟩ rfl rfl hl.1 rfl (lv_room (Nat.le_of_ble_eq_true rfl)) d_X0_make_15 ⟨Nat.zero_le _, Nat.zero_le _⟩) hS (fun q _ h => h) (fun q h => h) (fun r51 u t H locs ht hvm hv hP hz1 hk1 hS => ?_)
    obtain ⟨I49, L50⟩ := u
    dsimp only at hv hP
    rw [ht] at hP
    have hD : mm_DW G I49 L50 := mm_D_any hD
    refine lv_if_ne (tgt := 23) hx hb d_X0_make_18 (by decide) (fun hc => ?_) (fun hc => ?_)
    · have hv := hv.1 hc
      refine lv_iload_n hx hb d_X0_make_23 rfl (lv_at hl 1 rfl) ?_
      refine lv_iconst (v := 1) hx hb d_X0_make_24 (by decide) ?_
      refine va_calli (va_runS (As := [.int x1, .int 1]) (rest := []) ⟨hx, hb, hml, hown, hg⟩ (m_X0_takesNode l G x1 1 I49 L50 _  hv) (va_cwS 2 hg (mm_gS k_7 k_8 k_6 kc_X0_takesNode) rfl rfl rfl (by decide +kernel) ⟨Nat.le_of_ble_eq_true rfl, Nat.le_of_ble_eq_true rfl⟩) ⟨mm_blind, fun U hU hW => mm_call hP hK hD hC hU hS hW⟩ rfl rfl hl.1 rfl (lv_room (Nat.le_of_ble_eq_true rfl)) d_X0_make_25 ⟨Nat.zero_le _, Nat.zero_le _⟩) hS (fun q _ h => h) (fun q h => h) (fun r54 u t H locs ht hvm hv hP hz1 hk1 hS => ?_)
      obtain ⟨I52, L53⟩ := u
      dsimp only at hv hP
      rw [ht] at hP
      have hD : mm_DW G I52 L53 := mm_D_any hD
      refine lv_if_eq (tgt := 35) hx hb d_X0_make_28 (by decide) (fun hc => ?_) (fun hc => ?_)
      · have hv := hv.1 hc
        refine lv_iconst (v := (-1)) hx hb d_X0_make_35 (by decide) ?_
        exact w_X0_make_36 hcx x1 x2 x3 x4 (-1) I52 L53 Q  hv hP hD hS (lv_sub hl [0, 1, 2, 3, 4] rfl)
      · have hv := hv.2 hc
        refine lv_iload_n hx hb d_X0_make_31 rfl (lv_at hl 2 rfl) ?_
        refine lv_goto (tgt := 36) hx hb d_X0_make_32 (by decide) ?_
        exact w_X0_make_36 hcx x1 x2 x3 x4 x2 I52 L53 Q  hv hP hD hS (lv_sub hl [0, 1, 2, 3, 4] rfl)
    · have hv := hv.2 hc
      refine lv_iconst (v := (-1)) hx hb d_X0_make_21 (by decide) ?_
      exact W.iret (v := (-1)) hx hb hr (fun t ht hW => ⟨⟨(-1), (I49, L50), rfl, hv, mm_mv ht hP⟩, hS.F ht⟩) hS.2.2 d_X0_make_22
abbrev vc_X0_make (x1 : Int32) (x2 : Int32) (x3 : Int32) (x4 : Int32) (I : mm_I) (L : mm_L) (Q : Int32 → mm_I → mm_L → Prop) : Prop := vc_X0_make_0 x1 x2 x3 x4 I L Q
set_option maxHeartbeats 4000000 in
set_option maxRecDepth 100000 in
theorem m_X0_make (l : Launch) (G : mm_G) (x1 : Int32) (x2 : Int32) (x3 : Int32) (x4 : Int32) (I : mm_I) (L : mm_L) (Q : Int32 → mm_I → mm_L → Prop)  (hv : vc_X0_make x1 x2 x3 x4 I L Q) : Met l y_X0_make w_X0_make rm_X0_make (mm_pre G [.ref (G.2.2.1 2), .int x1, .int x2, .int x3, .int x4] I L) (mm_qi G Q) 0 0 G.2.2.2.1 := by
  refine Met.ofW (cc := c_X0_make) (maxL := 11) (ret := (some .int)) (by decide) rfl ?_
  intro p e s m args below meth c s₁ B hml hw
  obtain ⟨rfl, hP, hK, hD, hC⟩ := hw
  have hts := atoms_spec (ws := w_X0_make) B.pre
  have hown : s.vm.findClass RX0 = some m.cls := findClass_of_methodNamed B.named
  have hl := lv_entry ([.ref (G.2.2.1 2), .int x1, .int x2, .int x3, .int x4]) (n := 11) (Nat.le_of_ble_eq_true rfl)
  rw [lg_entry_eq]
  generalize (lg_sl ([.ref (G.2.2.1 2), .int x1, .int x2, .int x3, .int x4]) ++ List.replicate (11 - (lg_sl ([.ref (G.2.2.1 2), .int x1, .int x2, .int x3, .int x4])).length) Slot.unset).toArray = ls at hl ⊢
  have hl : lv_has ls 11 [(0, .ref (G.2.2.1 2)), (1, .int x1), (2, .int x2), (3, .int x3), (4, .int x4)] := hl
  exact w_X0_make_0 ⟨B.exec, B.bytes, B.returns, B.notSynchronized, hml, hown, fun w h => hts w (List.mem_cons_of_mem _ h), hK, hC⟩ x1 x2 x3 x4 I L Q  hv hP hD va_S.rf hl
abbrev rm_X6_node : Room := { frames := 5, cells := 0, slots := 0, locals := 118 }
def vc_X6_node_0 (x1 : Int32) (x2 : Int32) (x3 : Int32) (x4 : Int32) (I : mm_I) (L : mm_L) (Q : Int32 → mm_I → mm_L → Prop) : Prop :=
  vc_X0_make x1 x2 x3 x4 I L (fun r90 I88 L89 => Q r90 I88 L89)
set_option maxHeartbeats 4000000 in
set_option maxRecDepth 100000 in
theorem w_X6_node_0 {p : Program} {l : Launch} {e : Env} {s : State} {m : MethodId} {args : Array Value} {below : List Frame} {meth : Method} {c : Code} {G : mm_G} (hcx : mm_cx c_X6_node (some .int) 5 RX6 G p s m args meth c) (x1 : Int32) (x2 : Int32) (x3 : Int32) (x4 : Int32) (I : mm_I) (L : mm_L) (Q : Int32 → mm_I → mm_L → Prop)  (hv : vc_X6_node_0 x1 x2 x3 x4 I L Q) {H : Heap} {locs : List Loc} (hP : mm_PW G I L H) (hD : mm_DW G I L) (hS : va_S G.2.2.2.1 s.heap H locs) {ls : Array Slot} (hl : lv_has ls 5 [(0, .ref (G.2.2.1 0)), (1, .int x1), (2, .int x2), (3, .int x3), (4, .int x4)]) : W p l e (headSpec w_X6_node rm_X6_node).room s m args below meth c H locs 0 0 (MQ below (mm_qi G Q) args s 0 0 G.2.2.2.1) (F0 m 0 ls []) := by
  obtain ⟨hx, hb, hr, hlocks, hml, hown, hg, hK, hC⟩ := id hcx
  unfold vc_X6_node_0 at hv
  refine lv_aload_n hx hb d_X6_node_0 rfl (lv_at hl 0 rfl) ?_
  refine mm_gr (D := G.1) (C := RX6) (T := TX6) (N0 := 3) (r := 1) hx hb hg in_X6 hown hK hP (t := 0) (by decide) rfl rfl 0 (by decide) (hg _ k_34) (fun _ h9 => h9) rfl d_X6_node_1 ?_
  refine mm_gr (D := G.1) (C := RX2) (T := TX2) (N0 := 4) (r := 2) hx hb hg in_X2 hown hK hP (t := 1) (by decide) rfl rfl 0 (by decide) (hg _ k_35) (fun _ h9 => h9) rfl d_X6_node_4 ?_
  refine lv_iload_n hx hb d_X6_node_7 rfl (lv_at hl 1 rfl) ?_
  refine lv_iload_n hx hb d_X6_node_8 rfl (lv_at hl 2 rfl) ?_
  refine lv_iload_n hx hb d_X6_node_9 rfl (lv_at hl 3 rfl) ?_
  refine lv_iload hx hb d_X6_node_10 (lv_at hl 4 rfl) ?_
  refine va_calli (va_runV (As := [.int x1, .int x2, .int x3, .int x4]) (rest := []) ⟨hx, hb, hml, hown, hg⟩ (m_X0_make l G x1 x2 x3 x4 I L _  hv) (cwV 4 hg (mm_gV k_36 k_37 k_38 k_6 kc_X0_make) rfl rfl rfl (by decide +kernel) ⟨Nat.le_of_ble_eq_true rfl, Nat.le_of_ble_eq_true rfl⟩) ⟨mm_blind, mm_recv hK hP (t := 2) (by decide) rfl rfl, fun U hU hW => mm_call hP hK hD hC hU hS hW⟩ rfl rfl hl.1 rfl (lv_room (Nat.le_of_ble_eq_true rfl)) d_X6_node_12 ⟨Nat.zero_le _, Nat.zero_le _⟩) hS (fun q _ h => h) (fun q h => h) (fun r90 u t H locs ht hvm hv hP hz1 hk1 hS => ?_)
  obtain ⟨I88, L89⟩ := u
  dsimp only at hv hP
  rw [ht] at hP
  have hD : mm_DW G I88 L89 := mm_D_any hD
  exact W.iret (v := r90) hx hb hr (fun t ht hW => ⟨⟨r90, (I88, L89), rfl, hv, mm_mv ht hP⟩, hS.F ht⟩) hS.2.2 d_X6_node_15
abbrev vc_X6_node (x1 : Int32) (x2 : Int32) (x3 : Int32) (x4 : Int32) (I : mm_I) (L : mm_L) (Q : Int32 → mm_I → mm_L → Prop) : Prop := vc_X6_node_0 x1 x2 x3 x4 I L Q
set_option maxHeartbeats 4000000 in
set_option maxRecDepth 100000 in
theorem m_X6_node (l : Launch) (G : mm_G) (x1 : Int32) (x2 : Int32) (x3 : Int32) (x4 : Int32) (I : mm_I) (L : mm_L) (Q : Int32 → mm_I → mm_L → Prop)  (hv : vc_X6_node x1 x2 x3 x4 I L Q) : Met l y_X6_node w_X6_node rm_X6_node (mm_pre G [.ref (G.2.2.1 0), .int x1, .int x2, .int x3, .int x4] I L) (mm_qi G Q) 0 0 G.2.2.2.1 := by
  refine Met.ofW (cc := c_X6_node) (maxL := 5) (ret := (some .int)) (by decide) rfl ?_
  intro p e s m args below meth c s₁ B hml hw
  obtain ⟨rfl, hP, hK, hD, hC⟩ := hw
  have hts := atoms_spec (ws := w_X6_node) B.pre
  have hown : s.vm.findClass RX6 = some m.cls := findClass_of_methodNamed B.named
  have hl := lv_entry ([.ref (G.2.2.1 0), .int x1, .int x2, .int x3, .int x4]) (n := 5) (Nat.le_of_ble_eq_true rfl)
  rw [lg_entry_eq]
  generalize (lg_sl ([.ref (G.2.2.1 0), .int x1, .int x2, .int x3, .int x4]) ++ List.replicate (5 - (lg_sl ([.ref (G.2.2.1 0), .int x1, .int x2, .int x3, .int x4])).length) Slot.unset).toArray = ls at hl ⊢
  have hl : lv_has ls 5 [(0, .ref (G.2.2.1 0)), (1, .int x1), (2, .int x2), (3, .int x3), (4, .int x4)] := hl
  exact w_X6_node_0 ⟨B.exec, B.bytes, B.returns, B.notSynchronized, hml, hown, fun w h => hts w (List.mem_cons_of_mem _ h), hK, hC⟩ x1 x2 x3 x4 I L Q  hv hP hD va_S.rf hl
abbrev rm_X6_define : Room := { frames := 2, cells := 0, slots := 0, locals := 42 }
def vc_X6_define_0 (x1 : Int32) (x2 : Int32) (I : mm_I) (L : mm_L) (Q : Int32 → mm_I → mm_L → Prop) : Prop :=
  vc_X6_within x1 8 I L (fun r93 I91 L92 => (r93 = 0 → Q (-1) I91 L92) ∧ (¬ r93 = 0 → vc_X0_has x2 I91 L92 (fun r96 I94 L95 => (r96 = 0 → Q (-1) I94 L95) ∧ (¬ r96 = 0 → vp_in x2 70 ∧ ((I94 8 x2.toNatClampNeg) ≤ x1 → vp_in x1 8 ∧ Q 0 (mm_uI I94 10 x1.toNatClampNeg x2) L95) ∧ (¬ (I94 8 x2.toNatClampNeg) ≤ x1 → Q (-1) I94 L95)))))
set_option maxHeartbeats 4000000 in
set_option maxRecDepth 100000 in
theorem w_X6_define_0 {p : Program} {l : Launch} {e : Env} {s : State} {m : MethodId} {args : Array Value} {below : List Frame} {meth : Method} {c : Code} {G : mm_G} (hcx : mm_cx c_X6_define (some .int) 3 RX6 G p s m args meth c) (x1 : Int32) (x2 : Int32) (I : mm_I) (L : mm_L) (Q : Int32 → mm_I → mm_L → Prop)  (hv : vc_X6_define_0 x1 x2 I L Q) {H : Heap} {locs : List Loc} (hP : mm_PW G I L H) (hD : mm_DW G I L) (hS : va_S G.2.2.2.1 s.heap H locs) {ls : Array Slot} (hl : lv_has ls 3 [(0, .ref (G.2.2.1 0)), (1, .int x1), (2, .int x2)]) : W p l e (headSpec w_X6_define rm_X6_define).room s m args below meth c H locs 0 0 (MQ below (mm_qi G Q) args s 0 0 G.2.2.2.1) (F0 m 0 ls []) := by
  obtain ⟨hx, hb, hr, hlocks, hml, hown, hg, hK, hC⟩ := id hcx
  unfold vc_X6_define_0 at hv
  refine lv_iload_n hx hb d_X6_define_0 rfl (lv_at hl 1 rfl) ?_
  refine lv_bipush (v := 8) hx hb d_X6_define_1 (by decide) ?_
  refine va_calli (va_runS (As := [.int x1, .int 8]) (rest := []) ⟨hx, hb, hml, hown, hg⟩ (m_X6_within l G x1 8 I L _  hv) (va_cwS 2 hg (mm_gS k_42 k_2 k_1 kc_X6_within) rfl rfl rfl (by decide +kernel) ⟨Nat.le_of_ble_eq_true rfl, Nat.le_of_ble_eq_true rfl⟩) ⟨mm_blind, fun U hU hW => mm_call hP hK hD hC hU hS hW⟩ rfl rfl hl.1 rfl (lv_room (Nat.le_of_ble_eq_true rfl)) d_X6_define_3 ⟨Nat.zero_le _, Nat.zero_le _⟩) hS (fun q _ h => h) (fun q h => h) (fun r93 u t H locs ht hvm hv hP hz1 hk1 hS => ?_)
  obtain ⟨I91, L92⟩ := u
  dsimp only at hv hP
  rw [ht] at hP
  have hD : mm_DW G I91 L92 := mm_D_any hD
  refine lv_if_eq (tgt := 39) hx hb d_X6_define_6 (by decide) (fun hc => ?_) (fun hc => ?_)
  · have hv := hv.1 hc
    refine lv_iconst (v := (-1)) hx hb d_X6_define_39 (by decide) ?_
    exact W.iret (v := (-1)) hx hb hr (fun t ht hW => ⟨⟨(-1), (I91, L92), rfl, hv, mm_mv ht hP⟩, hS.F ht⟩) hS.2.2 d_X6_define_40
  · have hv := hv.2 hc
    refine lv_aload_n hx hb d_X6_define_9 rfl (lv_at hl 0 rfl) ?_
    refine mm_gr (D := G.1) (C := RX6) (T := TX6) (N0 := 3) (r := 1) hx hb hg in_X6 hown hK hP (t := 0) (by decide) rfl rfl 0 (by decide) (hg _ k_34) (fun _ h9 => h9) rfl d_X6_define_10 ?_
    refine mm_gr (D := G.1) (C := RX2) (T := TX2) (N0 := 4) (r := 2) hx hb hg in_X2 hown hK hP (t := 1) (by decide) rfl rfl 0 (by decide) (hg _ k_35) (fun _ h9 => h9) rfl d_X6_define_13 ?_
    refine lv_iload_n hx hb d_X6_define_16 rfl (lv_at hl 2 rfl) ?_
    refine va_calli (va_runV (As := [.int x2]) (rest := []) ⟨hx, hb, hml, hown, hg⟩ (m_X0_has l G x2 I91 L92 _  hv) (cwV 1 hg (mm_gV k_41 k_4 k_5 k_6 kc_X0_has) rfl rfl rfl (by decide +kernel) ⟨Nat.le_of_ble_eq_true rfl, Nat.le_of_ble_eq_true rfl⟩) ⟨mm_blind, mm_recv hK hP (t := 2) (by decide) rfl rfl, fun U hU hW => mm_call hP hK hD hC hU hS hW⟩ rfl rfl hl.1 rfl (lv_room (Nat.le_of_ble_eq_true rfl)) d_X6_define_17 ⟨Nat.zero_le _, Nat.zero_le _⟩) hS (fun q _ h => h) (fun q h => h) (fun r96 u t H locs ht hvm hv hP hz1 hk1 hS => ?_)
    obtain ⟨I94, L95⟩ := u
    dsimp only at hv hP
    rw [ht] at hP
    have hD : mm_DW G I94 L95 := mm_D_any hD
    refine lv_if_eq (tgt := 39) hx hb d_X6_define_20 (by decide) (fun hc => ?_) (fun hc => ?_)
    · have hv := hv.1 hc
      refine lv_iconst (v := (-1)) hx hb d_X6_define_39 (by decide) ?_
      exact W.iret (v := (-1)) hx hb hr (fun t ht hW => ⟨⟨(-1), (I94, L95), rfl, hv, mm_mv ht hP⟩, hS.F ht⟩) hS.2.2 d_X6_define_40
    · have hv := hv.2 hc
      refine lv_aload_n hx hb d_X6_define_23 rfl (lv_at hl 0 rfl) ?_
      refine mm_gr (D := G.1) (C := RX6) (T := TX6) (N0 := 3) (r := 1) hx hb hg in_X6 hown hK hP (t := 0) (by decide) rfl rfl 0 (by decide) (hg _ k_34) (fun _ h9 => h9) rfl d_X6_define_24 ?_
      refine mm_gr (D := G.1) (C := RX2) (T := TX2) (N0 := 4) (r := 2) hx hb hg in_X2 hown hK hP (t := 1) (by decide) rfl rfl 0 (by decide) (hg _ k_35) (fun _ h9 => h9) rfl d_X6_define_27 ?_
      refine mm_gr (D := G.1) (C := RX0) (T := TX0) (N0 := 8) (r := 8) hx hb hg in_X0 hown hK hP (t := 2) (by decide) rfl rfl 5 (by decide) (hg _ k_39) (fun _ h9 => h9) rfl d_X6_define_30 ?_
      refine lv_iload_n hx hb d_X6_define_33 rfl (lv_at hl 2 rfl) ?_
      obtain ⟨h97, hv⟩ := hv
      refine mm_iald (D := G.1) hx hb hK hP (t := 8) (by decide) rfl rfl h97 d_X6_define_34 ?_
      refine lv_iload_n hx hb d_X6_define_35 rfl (lv_at hl 1 rfl) ?_
      refine lv_icmp_le (tgt := 41) hx hb d_X6_define_36 (by decide) (fun hc => ?_) (fun hc => ?_)
      · have hv := hv.1 hc
        refine lv_aload_n hx hb d_X6_define_41 rfl (lv_at hl 0 rfl) ?_
        refine mm_gr (D := G.1) (C := RX6) (T := TX6) (N0 := 3) (r := 1) hx hb hg in_X6 hown hK hP (t := 0) (by decide) rfl rfl 0 (by decide) (hg _ k_34) (fun _ h9 => h9) rfl d_X6_define_42 ?_
        refine mm_gr (D := G.1) (C := RX2) (T := TX2) (N0 := 4) (r := 10) hx hb hg in_X2 hown hK hP (t := 1) (by decide) rfl rfl 1 (by decide) (hg _ k_40) (fun _ h9 => h9) rfl d_X6_define_45 ?_
        refine lv_iload_n hx hb d_X6_define_48 rfl (lv_at hl 1 rfl) ?_
        refine lv_iload_n hx hb d_X6_define_49 rfl (lv_at hl 2 rfl) ?_
        obtain ⟨h98, hv⟩ := hv
        refine mm_iast (D := G.1) hx hb hK hP hD hS (t := 10) (by decide) rfl rfl h98 d_X6_define_50 (fun H locs hP hD hS => ?_)
        refine lv_iconst (v := 0) hx hb d_X6_define_51 (by decide) ?_
        exact W.iret (v := 0) hx hb hr (fun t ht hW => ⟨⟨0, ((mm_uI I94 10 x1.toNatClampNeg x2), L95), rfl, hv, mm_mv ht hP⟩, hS.F ht⟩) hS.2.2 d_X6_define_52
      · have hv := hv.2 hc
        refine lv_iconst (v := (-1)) hx hb d_X6_define_39 (by decide) ?_
        exact W.iret (v := (-1)) hx hb hr (fun t ht hW => ⟨⟨(-1), (I94, L95), rfl, hv, mm_mv ht hP⟩, hS.F ht⟩) hS.2.2 d_X6_define_40
abbrev vc_X6_define (x1 : Int32) (x2 : Int32) (I : mm_I) (L : mm_L) (Q : Int32 → mm_I → mm_L → Prop) : Prop := vc_X6_define_0 x1 x2 I L Q
set_option maxHeartbeats 4000000 in
set_option maxRecDepth 100000 in
theorem m_X6_define (l : Launch) (G : mm_G) (x1 : Int32) (x2 : Int32) (I : mm_I) (L : mm_L) (Q : Int32 → mm_I → mm_L → Prop)  (hv : vc_X6_define x1 x2 I L Q) : Met l y_X6_define w_X6_define rm_X6_define (mm_pre G [.ref (G.2.2.1 0), .int x1, .int x2] I L) (mm_qi G Q) 0 0 G.2.2.2.1 := by
  refine Met.ofW (cc := c_X6_define) (maxL := 3) (ret := (some .int)) (by decide) rfl ?_
  intro p e s m args below meth c s₁ B hml hw
  obtain ⟨rfl, hP, hK, hD, hC⟩ := hw
  have hts := atoms_spec (ws := w_X6_define) B.pre
  have hown : s.vm.findClass RX6 = some m.cls := findClass_of_methodNamed B.named
  have hl := lv_entry ([.ref (G.2.2.1 0), .int x1, .int x2]) (n := 3) (Nat.le_of_ble_eq_true rfl)
  rw [lg_entry_eq]
  generalize (lg_sl ([.ref (G.2.2.1 0), .int x1, .int x2]) ++ List.replicate (3 - (lg_sl ([.ref (G.2.2.1 0), .int x1, .int x2])).length) Slot.unset).toArray = ls at hl ⊢
  have hl : lv_has ls 3 [(0, .ref (G.2.2.1 0)), (1, .int x1), (2, .int x2)] := hl
  exact w_X6_define_0 ⟨B.exec, B.bytes, B.returns, B.notSynchronized, hml, hown, fun w h => hts w (List.mem_cons_of_mem _ h), hK, hC⟩ x1 x2 I L Q  hv hP hD va_S.rf hl
abbrev rm_X6_undefine : Room := { frames := 1, cells := 0, slots := 0, locals := 21 }
def vc_X6_undefine_0 (x1 : Int32) (I : mm_I) (L : mm_L) (Q : Int32 → mm_I → mm_L → Prop) : Prop :=
  vc_X6_within x1 8 I L (fun r101 I99 L100 => (¬ r101 = 0 → vp_in x1 8 ∧ Q 0 (mm_uI I99 10 x1.toNatClampNeg (-1)) L100) ∧ (r101 = 0 → Q (-1) I99 L100))
set_option maxHeartbeats 4000000 in
set_option maxRecDepth 100000 in
theorem w_X6_undefine_0 {p : Program} {l : Launch} {e : Env} {s : State} {m : MethodId} {args : Array Value} {below : List Frame} {meth : Method} {c : Code} {G : mm_G} (hcx : mm_cx c_X6_undefine (some .int) 2 RX6 G p s m args meth c) (x1 : Int32) (I : mm_I) (L : mm_L) (Q : Int32 → mm_I → mm_L → Prop)  (hv : vc_X6_undefine_0 x1 I L Q) {H : Heap} {locs : List Loc} (hP : mm_PW G I L H) (hD : mm_DW G I L) (hS : va_S G.2.2.2.1 s.heap H locs) {ls : Array Slot} (hl : lv_has ls 2 [(0, .ref (G.2.2.1 0)), (1, .int x1)]) : W p l e (headSpec w_X6_undefine rm_X6_undefine).room s m args below meth c H locs 0 0 (MQ below (mm_qi G Q) args s 0 0 G.2.2.2.1) (F0 m 0 ls []) := by
  obtain ⟨hx, hb, hr, hlocks, hml, hown, hg, hK, hC⟩ := id hcx
  unfold vc_X6_undefine_0 at hv
  refine lv_iload_n hx hb d_X6_undefine_0 rfl (lv_at hl 1 rfl) ?_
  refine lv_bipush (v := 8) hx hb d_X6_undefine_1 (by decide) ?_
  refine va_calli (va_runS (As := [.int x1, .int 8]) (rest := []) ⟨hx, hb, hml, hown, hg⟩ (m_X6_within l G x1 8 I L _  hv) (va_cwS 2 hg (mm_gS k_42 k_2 k_1 kc_X6_within) rfl rfl rfl (by decide +kernel) ⟨Nat.le_of_ble_eq_true rfl, Nat.le_of_ble_eq_true rfl⟩) ⟨mm_blind, fun U hU hW => mm_call hP hK hD hC hU hS hW⟩ rfl rfl hl.1 rfl (lv_room (Nat.le_of_ble_eq_true rfl)) d_X6_undefine_3 ⟨Nat.zero_le _, Nat.zero_le _⟩) hS (fun q _ h => h) (fun q h => h) (fun r101 u t H locs ht hvm hv hP hz1 hk1 hS => ?_)
  obtain ⟨I99, L100⟩ := u
  dsimp only at hv hP
  rw [ht] at hP
  have hD : mm_DW G I99 L100 := mm_D_any hD
  refine lv_if_ne (tgt := 11) hx hb d_X6_undefine_6 (by decide) (fun hc => ?_) (fun hc => ?_)
  · have hv := hv.1 hc
    refine lv_aload_n hx hb d_X6_undefine_11 rfl (lv_at hl 0 rfl) ?_
    refine mm_gr (D := G.1) (C := RX6) (T := TX6) (N0 := 3) (r := 1) hx hb hg in_X6 hown hK hP (t := 0) (by decide) rfl rfl 0 (by decide) (hg _ k_34) (fun _ h9 => h9) rfl d_X6_undefine_12 ?_
    refine mm_gr (D := G.1) (C := RX2) (T := TX2) (N0 := 4) (r := 10) hx hb hg in_X2 hown hK hP (t := 1) (by decide) rfl rfl 1 (by decide) (hg _ k_40) (fun _ h9 => h9) rfl d_X6_undefine_15 ?_
    refine lv_iload_n hx hb d_X6_undefine_18 rfl (lv_at hl 1 rfl) ?_
    refine lv_iconst (v := (-1)) hx hb d_X6_undefine_19 (by decide) ?_
    obtain ⟨h102, hv⟩ := hv
    refine mm_iast (D := G.1) hx hb hK hP hD hS (t := 10) (by decide) rfl rfl h102 d_X6_undefine_20 (fun H locs hP hD hS => ?_)
    refine lv_iconst (v := 0) hx hb d_X6_undefine_21 (by decide) ?_
    exact W.iret (v := 0) hx hb hr (fun t ht hW => ⟨⟨0, ((mm_uI I99 10 x1.toNatClampNeg (-1)), L100), rfl, hv, mm_mv ht hP⟩, hS.F ht⟩) hS.2.2 d_X6_undefine_22
  · have hv := hv.2 hc
    refine lv_iconst (v := (-1)) hx hb d_X6_undefine_9 (by decide) ?_
    exact W.iret (v := (-1)) hx hb hr (fun t ht hW => ⟨⟨(-1), (I99, L100), rfl, hv, mm_mv ht hP⟩, hS.F ht⟩) hS.2.2 d_X6_undefine_10
abbrev vc_X6_undefine (x1 : Int32) (I : mm_I) (L : mm_L) (Q : Int32 → mm_I → mm_L → Prop) : Prop := vc_X6_undefine_0 x1 I L Q
set_option maxHeartbeats 4000000 in
set_option maxRecDepth 100000 in
theorem m_X6_undefine (l : Launch) (G : mm_G) (x1 : Int32) (I : mm_I) (L : mm_L) (Q : Int32 → mm_I → mm_L → Prop)  (hv : vc_X6_undefine x1 I L Q) : Met l y_X6_undefine w_X6_undefine rm_X6_undefine (mm_pre G [.ref (G.2.2.1 0), .int x1] I L) (mm_qi G Q) 0 0 G.2.2.2.1 := by
  refine Met.ofW (cc := c_X6_undefine) (maxL := 2) (ret := (some .int)) (by decide) rfl ?_
  intro p e s m args below meth c s₁ B hml hw
  obtain ⟨rfl, hP, hK, hD, hC⟩ := hw
  have hts := atoms_spec (ws := w_X6_undefine) B.pre
  have hown : s.vm.findClass RX6 = some m.cls := findClass_of_methodNamed B.named
  have hl := lv_entry ([.ref (G.2.2.1 0), .int x1]) (n := 2) (Nat.le_of_ble_eq_true rfl)
  rw [lg_entry_eq]
  generalize (lg_sl ([.ref (G.2.2.1 0), .int x1]) ++ List.replicate (2 - (lg_sl ([.ref (G.2.2.1 0), .int x1])).length) Slot.unset).toArray = ls at hl ⊢
  have hl : lv_has ls 2 [(0, .ref (G.2.2.1 0)), (1, .int x1)] := hl
  exact w_X6_undefine_0 ⟨B.exec, B.bytes, B.returns, B.notSynchronized, hml, hown, fun w h => hts w (List.mem_cons_of_mem _ h), hK, hC⟩ x1 I L Q  hv hP hD va_S.rf hl
abbrev rm_X4_addStep : Room := { frames := 0, cells := 0, slots := 0, locals := 0 }
def vc_X4_addStep_22 (p0 : Nat) (x1 : Int32) (x2 : Int32) (xs0 : Int32) (I : mm_I) (L : mm_L) (Q : Int32 → mm_I → mm_L → Prop) : Prop :=
  (x1 ≤ xs0 → Q (-1) I L) ∧ (¬ x1 ≤ xs0 → (x2 < 0 → Q (-1) I L) ∧ (¬ x2 < 0 → (x2 ≤ 1000 → (¬ (I (18 + p0) 2) = 5 → vp_in (I (18 + p0) 2) 5 ∧ vp_in ((mm_uI I (20 + p0) ((I (18 + p0) 2)).toNatClampNeg x1) (18 + p0) 2) 5 ∧ Q ((mm_uI (mm_uI (mm_uI I (20 + p0) ((I (18 + p0) 2)).toNatClampNeg x1) (22 + p0) (((mm_uI I (20 + p0) ((I (18 + p0) 2)).toNatClampNeg x1) (18 + p0) 2)).toNatClampNeg x2) (18 + p0) 2 (((mm_uI (mm_uI I (20 + p0) ((I (18 + p0) 2)).toNatClampNeg x1) (22 + p0) (((mm_uI I (20 + p0) ((I (18 + p0) 2)).toNatClampNeg x1) (18 + p0) 2)).toNatClampNeg x2) (18 + p0) 2) + 1)) (18 + p0) 2) (mm_uI (mm_uI (mm_uI I (20 + p0) ((I (18 + p0) 2)).toNatClampNeg x1) (22 + p0) (((mm_uI I (20 + p0) ((I (18 + p0) 2)).toNatClampNeg x1) (18 + p0) 2)).toNatClampNeg x2) (18 + p0) 2 (((mm_uI (mm_uI I (20 + p0) ((I (18 + p0) 2)).toNatClampNeg x1) (22 + p0) (((mm_uI I (20 + p0) ((I (18 + p0) 2)).toNatClampNeg x1) (18 + p0) 2)).toNatClampNeg x2) (18 + p0) 2) + 1)) L) ∧ ((I (18 + p0) 2) = 5 → Q (-2) I L)) ∧ (¬ x2 ≤ 1000 → Q (-1) I L)))
def vc_X4_addStep_0 (p0 : Nat) (x1 : Int32) (x2 : Int32) (I : mm_I) (L : mm_L) (Q : Int32 → mm_I → mm_L → Prop) : Prop :=
  ((I (18 + p0) 2) ≤ 0 → vc_X4_addStep_22 p0 x1 x2 0 I L Q) ∧ (¬ (I (18 + p0) 2) ≤ 0 → vp_in ((I (18 + p0) 2) - 1) 5 ∧ vc_X4_addStep_22 p0 x1 x2 (I (20 + p0) (((I (18 + p0) 2) - 1)).toNatClampNeg) I L Q)
set_option maxHeartbeats 4000000 in
set_option maxRecDepth 100000 in
theorem w_X4_addStep_22 {p : Program} {l : Launch} {e : Env} {s : State} {m : MethodId} {args : Array Value} {below : List Frame} {meth : Method} {c : Code} {G : mm_G} (hcx : mm_cx c_X4_addStep (some .int) 4 RX4 G p s m args meth c) (p0 : Nat) (x1 : Int32) (x2 : Int32) (xs0 : Int32) (I : mm_I) (L : mm_L) (Q : Int32 → mm_I → mm_L → Prop) (hp0 : p0 < 2) (hv : vc_X4_addStep_22 p0 x1 x2 xs0 I L Q) {H : Heap} {locs : List Loc} (hP : mm_PW G I L H) (hD : mm_DW G I L) (hS : va_S G.2.2.2.1 s.heap H locs) {ls : Array Slot} (hl : lv_has ls 4 [(0, .ref (G.2.2.1 (18 + p0))), (1, .int x1), (2, .int x2)]) : W p l e (headSpec w_X4_addStep rm_X4_addStep).room s m args below meth c H locs 0 0 (MQ below (mm_qi G Q) args s 0 0 G.2.2.2.1) (F0 m 22 ls [.int xs0]) := by
  obtain ⟨hx, hb, hr, hlocks, hml, hown, hg, hK, hC⟩ := id hcx
  unfold vc_X4_addStep_22 at hv
  refine lv_istore_n (lv' := [(3, .int xs0), (0, .ref (G.2.2.1 (18 + p0))), (1, .int x1), (2, .int x2)]) hx hb d_X4_addStep_22 rfl hl (by decide) rfl (fun ls hl => ?_)
  refine lv_iload_n hx hb d_X4_addStep_23 rfl (lv_at hl 2 rfl) ?_
  refine lv_iload_n hx hb d_X4_addStep_24 rfl (lv_at hl 0 rfl) ?_
  refine lv_icmp_le (tgt := 39) hx hb d_X4_addStep_25 (by decide) (fun hc => ?_) (fun hc => ?_)
  · have hv := hv.1 hc
    refine lv_iconst (v := (-1)) hx hb d_X4_addStep_39 (by decide) ?_
    exact W.iret (v := (-1)) hx hb hr (fun t ht hW => ⟨⟨(-1), (I, L), rfl, hv, mm_mv ht hP⟩, hS.F ht⟩) hS.2.2 d_X4_addStep_40
  · have hv := hv.2 hc
    refine lv_iload_n hx hb d_X4_addStep_28 rfl (lv_at hl 3 rfl) ?_
    refine lv_if_lt (tgt := 39) hx hb d_X4_addStep_29 (by decide) (fun hc => ?_) (fun hc => ?_)
    · have hv := hv.1 hc
      refine lv_iconst (v := (-1)) hx hb d_X4_addStep_39 (by decide) ?_
      exact W.iret (v := (-1)) hx hb hr (fun t ht hW => ⟨⟨(-1), (I, L), rfl, hv, mm_mv ht hP⟩, hS.F ht⟩) hS.2.2 d_X4_addStep_40
    · have hv := hv.2 hc
      refine lv_iload_n hx hb d_X4_addStep_32 rfl (lv_at hl 3 rfl) ?_
      refine lv_sipush (v := 1000) hx hb d_X4_addStep_33 (by decide) ?_
      refine lv_icmp_le (tgt := 41) hx hb d_X4_addStep_36 (by decide) (fun hc => ?_) (fun hc => ?_)
      · have hv := hv.1 hc
        refine lv_aload_n hx hb d_X4_addStep_41 rfl (lv_at hl 1 rfl) ?_
        refine mm_gi (D := G.1) (C := RX4) (T := TX4) (N0 := 3) hx hb hg in_X4 hown hK hP (t := (18 + p0)) (ly_N_TB hp0) (ly_TB hp0) rfl 2 (by decide) (hg _ k_43) (fun _ h9 => h9) rfl d_X4_addStep_42 ?_
        refine lv_iconst (v := 5) hx hb d_X4_addStep_45 (by decide) ?_
        refine lv_icmp_ne (tgt := 52) hx hb d_X4_addStep_46 (by decide) (fun hc => ?_) (fun hc => ?_)
        · have hv := hv.1 hc
          refine lv_aload_n hx hb d_X4_addStep_52 rfl (lv_at hl 1 rfl) ?_
          refine mm_gr (D := G.1) (C := RX4) (T := TX4) (N0 := 3) (r := (20 + p0)) hx hb hg in_X4 hown hK hP (t := (18 + p0)) (ly_N_TB hp0) (ly_TB hp0) rfl 0 (by decide) (hg _ k_44) (fun _ h9 => h9) rfl d_X4_addStep_53 ?_
          refine lv_aload_n hx hb d_X4_addStep_56 rfl (lv_at hl 1 rfl) ?_
          refine mm_gi (D := G.1) (C := RX4) (T := TX4) (N0 := 3) hx hb hg in_X4 hown hK hP (t := (18 + p0)) (ly_N_TB hp0) (ly_TB hp0) rfl 2 (by decide) (hg _ k_43) (fun _ h9 => h9) rfl d_X4_addStep_57 ?_
          refine lv_iload_n hx hb d_X4_addStep_60 rfl (lv_at hl 2 rfl) ?_
          obtain ⟨h104, hv⟩ := hv
          refine mm_iast (D := G.1) hx hb hK hP hD hS (t := (20 + p0)) (ly_N_LIM hp0) (ly_LIM hp0) rfl h104 d_X4_addStep_61 (fun H locs hP hD hS => ?_)
          refine lv_aload_n hx hb d_X4_addStep_62 rfl (lv_at hl 1 rfl) ?_
          refine mm_gr (D := G.1) (C := RX4) (T := TX4) (N0 := 3) (r := (22 + p0)) hx hb hg in_X4 hown hK hP (t := (18 + p0)) (ly_N_TB hp0) (ly_TB hp0) rfl 1 (by decide) (hg _ k_45) (fun _ h9 => h9) rfl d_X4_addStep_63 ?_
          refine lv_aload_n hx hb d_X4_addStep_66 rfl (lv_at hl 1 rfl) ?_
          refine mm_gi (D := G.1) (C := RX4) (T := TX4) (N0 := 3) hx hb hg in_X4 hown hK hP (t := (18 + p0)) (ly_N_TB hp0) (ly_TB hp0) rfl 2 (by decide) (hg _ k_43) (fun _ h9 => h9) rfl d_X4_addStep_67 ?_
          refine lv_iload_n hx hb d_X4_addStep_70 rfl (lv_at hl 3 rfl) ?_
          obtain ⟨h105, hv⟩ := hv
          refine mm_iast (D := G.1) hx hb hK hP hD hS (t := (22 + p0)) (ly_N_RAT hp0) (ly_RAT hp0) rfl h105 d_X4_addStep_71 (fun H locs hP hD hS => ?_)
          refine lv_aload_n hx hb d_X4_addStep_72 rfl (lv_at hl 1 rfl) ?_
          refine lv_dup hx hb d_X4_addStep_73 rfl ?_
          refine mm_gi (D := G.1) (C := RX4) (T := TX4) (N0 := 3) hx hb hg in_X4 hown hK hP (t := (18 + p0)) (ly_N_TB hp0) (ly_TB hp0) rfl 2 (by decide) (hg _ k_43) (fun _ h9 => h9) rfl d_X4_addStep_74 ?_
          refine lv_iconst (v := 1) hx hb d_X4_addStep_77 (by decide) ?_
          refine lv_iadd hx hb d_X4_addStep_78 ?_
          refine mm_pi (D := G.1) (C := RX4) (T := TX4) (N0 := 3) (ty := .int) hx hb hg in_X4 tyX4 tyX4_ok nmX4 hown hK hP hD hS (t := (18 + p0)) (ly_N_TB hp0) (ly_TB hp0) rfl 2 (by decide) (hg _ k_43) (fun _ h9 => h9) rfl (by decide +kernel) rfl rfl rfl d_X4_addStep_79 (fun H locs hP hD hS => ?_)
          refine lv_aload_n hx hb d_X4_addStep_82 rfl (lv_at hl 1 rfl) ?_
          refine mm_gi (D := G.1) (C := RX4) (T := TX4) (N0 := 3) hx hb hg in_X4 hown hK hP (t := (18 + p0)) (ly_N_TB hp0) (ly_TB hp0) rfl 2 (by decide) (hg _ k_43) (fun _ h9 => h9) rfl d_X4_addStep_83 ?_
          exact W.iret (v := ((mm_uI (mm_uI (mm_uI I (20 + p0) ((I (18 + p0) 2)).toNatClampNeg x1) (22 + p0) (((mm_uI I (20 + p0) ((I (18 + p0) 2)).toNatClampNeg x1) (18 + p0) 2)).toNatClampNeg x2) (18 + p0) 2 (((mm_uI (mm_uI I (20 + p0) ((I (18 + p0) 2)).toNatClampNeg x1) (22 + p0) (((mm_uI I (20 + p0) ((I (18 + p0) 2)).toNatClampNeg x1) (18 + p0) 2)).toNatClampNeg x2) (18 + p0) 2) + 1)) (18 + p0) 2)) hx hb hr (fun t ht hW => ⟨⟨((mm_uI (mm_uI (mm_uI I (20 + p0) ((I (18 + p0) 2)).toNatClampNeg x1) (22 + p0) (((mm_uI I (20 + p0) ((I (18 + p0) 2)).toNatClampNeg x1) (18 + p0) 2)).toNatClampNeg x2) (18 + p0) 2 (((mm_uI (mm_uI I (20 + p0) ((I (18 + p0) 2)).toNatClampNeg x1) (22 + p0) (((mm_uI I (20 + p0) ((I (18 + p0) 2)).toNatClampNeg x1) (18 + p0) 2)).toNatClampNeg x2) (18 + p0) 2) + 1)) (18 + p0) 2), ((mm_uI (mm_uI (mm_uI I (20 + p0) ((I (18 + p0) 2)).toNatClampNeg x1) (22 + p0) (((mm_uI I (20 + p0) ((I (18 + p0) 2)).toNatClampNeg x1) (18 + p0) 2)).toNatClampNeg x2) (18 + p0) 2 (((mm_uI (mm_uI I (20 + p0) ((I (18 + p0) 2)).toNatClampNeg x1) (22 + p0) (((mm_uI I (20 + p0) ((I (18 + p0) 2)).toNatClampNeg x1) (18 + p0) 2)).toNatClampNeg x2) (18 + p0) 2) + 1)), L), rfl, hv, mm_mv ht hP⟩, hS.F ht⟩) hS.2.2 d_X4_addStep_86
        · have hv := hv.2 hc
          refine lv_bipush (v := (-2)) hx hb d_X4_addStep_49 (by decide) ?_
          exact W.iret (v := (-2)) hx hb hr (fun t ht hW => ⟨⟨(-2), (I, L), rfl, hv, mm_mv ht hP⟩, hS.F ht⟩) hS.2.2 d_X4_addStep_51
      · have hv := hv.2 hc
        refine lv_iconst (v := (-1)) hx hb d_X4_addStep_39 (by decide) ?_
        exact W.iret (v := (-1)) hx hb hr (fun t ht hW => ⟨⟨(-1), (I, L), rfl, hv, mm_mv ht hP⟩, hS.F ht⟩) hS.2.2 d_X4_addStep_40
set_option maxHeartbeats 4000000 in
set_option maxRecDepth 100000 in
theorem w_X4_addStep_0 {p : Program} {l : Launch} {e : Env} {s : State} {m : MethodId} {args : Array Value} {below : List Frame} {meth : Method} {c : Code} {G : mm_G} (hcx : mm_cx c_X4_addStep (some .int) 4 RX4 G p s m args meth c) (p0 : Nat) (x1 : Int32) (x2 : Int32) (I : mm_I) (L : mm_L) (Q : Int32 → mm_I → mm_L → Prop) (hp0 : p0 < 2) (hv : vc_X4_addStep_0 p0 x1 x2 I L Q) {H : Heap} {locs : List Loc} (hP : mm_PW G I L H) (hD : mm_DW G I L) (hS : va_S G.2.2.2.1 s.heap H locs) {ls : Array Slot} (hl : lv_has ls 4 [(0, .ref (G.2.2.1 (18 + p0))), (1, .int x1), (2, .int x2)]) : W p l e (headSpec w_X4_addStep rm_X4_addStep).room s m args below meth c H locs 0 0 (MQ below (mm_qi G Q) args s 0 0 G.2.2.2.1) (F0 m 0 ls []) := by
  obtain ⟨hx, hb, hr, hlocks, hml, hown, hg, hK, hC⟩ := id hcx
  unfold vc_X4_addStep_0 at hv
  refine lv_aload_n hx hb d_X4_addStep_0 rfl (lv_at hl 0 rfl) ?_
  refine mm_gi (D := G.1) (C := RX4) (T := TX4) (N0 := 3) hx hb hg in_X4 hown hK hP (t := (18 + p0)) (ly_N_TB hp0) (ly_TB hp0) rfl 2 (by decide) (hg _ k_43) (fun _ h9 => h9) rfl d_X4_addStep_1 ?_
  refine lv_if_le (tgt := 21) hx hb d_X4_addStep_4 (by decide) (fun hc => ?_) (fun hc => ?_)
  · have hv := hv.1 hc
    refine lv_iconst (v := 0) hx hb d_X4_addStep_21 (by decide) ?_
    exact w_X4_addStep_22 hcx p0 x1 x2 0 I L Q hp0 hv hP hD hS (lv_sub hl [0, 1, 2] rfl)
  · have hv := hv.2 hc
    refine lv_aload_n hx hb d_X4_addStep_7 rfl (lv_at hl 0 rfl) ?_
    refine mm_gr (D := G.1) (C := RX4) (T := TX4) (N0 := 3) (r := (20 + p0)) hx hb hg in_X4 hown hK hP (t := (18 + p0)) (ly_N_TB hp0) (ly_TB hp0) rfl 0 (by decide) (hg _ k_44) (fun _ h9 => h9) rfl d_X4_addStep_8 ?_
    refine lv_aload_n hx hb d_X4_addStep_11 rfl (lv_at hl 0 rfl) ?_
    refine mm_gi (D := G.1) (C := RX4) (T := TX4) (N0 := 3) hx hb hg in_X4 hown hK hP (t := (18 + p0)) (ly_N_TB hp0) (ly_TB hp0) rfl 2 (by decide) (hg _ k_43) (fun _ h9 => h9) rfl d_X4_addStep_12 ?_
    refine lv_iconst (v := 1) hx hb d_X4_addStep_15 (by decide) ?_
    refine lv_isub hx hb d_X4_addStep_16 ?_
    obtain ⟨h103, hv⟩ := hv
    refine mm_iald (D := G.1) hx hb hK hP (t := (20 + p0)) (ly_N_LIM hp0) (ly_LIM hp0) rfl h103 d_X4_addStep_17 ?_
    refine lv_goto (tgt := 22) hx hb d_X4_addStep_18 (by decide) ?_
    exact w_X4_addStep_22 hcx p0 x1 x2 (I (20 + p0) (((I (18 + p0) 2) - 1)).toNatClampNeg) I L Q hp0 hv hP hD hS (lv_sub hl [0, 1, 2] rfl)
abbrev vc_X4_addStep (p0 : Nat) (x1 : Int32) (x2 : Int32) (I : mm_I) (L : mm_L) (Q : Int32 → mm_I → mm_L → Prop) : Prop := vc_X4_addStep_0 p0 x1 x2 I L Q
set_option maxHeartbeats 4000000 in
set_option maxRecDepth 100000 in
theorem m_X4_addStep (l : Launch) (G : mm_G) (p0 : Nat) (x1 : Int32) (x2 : Int32) (I : mm_I) (L : mm_L) (Q : Int32 → mm_I → mm_L → Prop) (hp0 : p0 < 2) (hv : vc_X4_addStep p0 x1 x2 I L Q) : Met l y_X4_addStep w_X4_addStep rm_X4_addStep (mm_pre G [.ref (G.2.2.1 (18 + p0)), .int x1, .int x2] I L) (mm_qi G Q) 0 0 G.2.2.2.1 := by
  refine Met.ofW (cc := c_X4_addStep) (maxL := 4) (ret := (some .int)) (by decide) rfl ?_
  intro p e s m args below meth c s₁ B hml hw
  obtain ⟨rfl, hP, hK, hD, hC⟩ := hw
  have hts := atoms_spec (ws := w_X4_addStep) B.pre
  have hown : s.vm.findClass RX4 = some m.cls := findClass_of_methodNamed B.named
  have hl := lv_entry ([.ref (G.2.2.1 (18 + p0)), .int x1, .int x2]) (n := 4) (Nat.le_of_ble_eq_true rfl)
  rw [lg_entry_eq]
  generalize (lg_sl ([.ref (G.2.2.1 (18 + p0)), .int x1, .int x2]) ++ List.replicate (4 - (lg_sl ([.ref (G.2.2.1 (18 + p0)), .int x1, .int x2])).length) Slot.unset).toArray = ls at hl ⊢
  have hl : lv_has ls 4 [(0, .ref (G.2.2.1 (18 + p0))), (1, .int x1), (2, .int x2)] := hl
  exact w_X4_addStep_0 ⟨B.exec, B.bytes, B.returns, B.notSynchronized, hml, hown, fun w h => hts w (List.mem_cons_of_mem _ h), hK, hC⟩ p0 x1 x2 I L Q hp0 hv hP hD va_S.rf hl
abbrev rm_X6_step : Room := { frames := 1, cells := 0, slots := 0, locals := 23 }
def vc_X6_step_0 (x1 : Int32) (x2 : Int32) (x3 : Int32) (I : mm_I) (L : mm_L) (Q : Int32 → mm_I → mm_L → Prop) : Prop :=
  vc_X6_within x1 2 I L (fun r108 I106 L107 => (r108 = 0 → Q (-1) I106 L107) ∧ (¬ r108 = 0 → vp_in x1 2 ∧ vc_X4_addStep (x1.toNatClampNeg) x2 x3 I106 L107 (fun r112 I110 L111 => Q r112 I110 L111)))
set_option maxHeartbeats 4000000 in
set_option maxRecDepth 100000 in
theorem w_X6_step_0 {p : Program} {l : Launch} {e : Env} {s : State} {m : MethodId} {args : Array Value} {below : List Frame} {meth : Method} {c : Code} {G : mm_G} (hcx : mm_cx c_X6_step (some .int) 4 RX6 G p s m args meth c) (x1 : Int32) (x2 : Int32) (x3 : Int32) (I : mm_I) (L : mm_L) (Q : Int32 → mm_I → mm_L → Prop)  (hv : vc_X6_step_0 x1 x2 x3 I L Q) {H : Heap} {locs : List Loc} (hP : mm_PW G I L H) (hD : mm_DW G I L) (hS : va_S G.2.2.2.1 s.heap H locs) {ls : Array Slot} (hl : lv_has ls 4 [(0, .ref (G.2.2.1 0)), (1, .int x1), (2, .int x2), (3, .int x3)]) : W p l e (headSpec w_X6_step rm_X6_step).room s m args below meth c H locs 0 0 (MQ below (mm_qi G Q) args s 0 0 G.2.2.2.1) (F0 m 0 ls []) := by
  obtain ⟨hx, hb, hr, hlocks, hml, hown, hg, hK, hC⟩ := id hcx
  unfold vc_X6_step_0 at hv
  refine lv_iload_n hx hb d_X6_step_0 rfl (lv_at hl 1 rfl) ?_
  refine lv_iconst (v := 2) hx hb d_X6_step_1 (by decide) ?_
  refine va_calli (va_runS (As := [.int x1, .int 2]) (rest := []) ⟨hx, hb, hml, hown, hg⟩ (m_X6_within l G x1 2 I L _  hv) (va_cwS 2 hg (mm_gS k_42 k_2 k_1 kc_X6_within) rfl rfl rfl (by decide +kernel) ⟨Nat.le_of_ble_eq_true rfl, Nat.le_of_ble_eq_true rfl⟩) ⟨mm_blind, fun U hU hW => mm_call hP hK hD hC hU hS hW⟩ rfl rfl hl.1 rfl (lv_room (Nat.le_of_ble_eq_true rfl)) d_X6_step_2 ⟨Nat.zero_le _, Nat.zero_le _⟩) hS (fun q _ h => h) (fun q h => h) (fun r108 u t H locs ht hvm hv hP hz1 hk1 hS => ?_)
  obtain ⟨I106, L107⟩ := u
  dsimp only at hv hP
  rw [ht] at hP
  have hD : mm_DW G I106 L107 := mm_D_any hD
  refine lv_if_eq (tgt := 25) hx hb d_X6_step_5 (by decide) (fun hc => ?_) (fun hc => ?_)
  · have hv := hv.1 hc
    refine lv_iconst (v := (-1)) hx hb d_X6_step_25 (by decide) ?_
    exact W.iret (v := (-1)) hx hb hr (fun t ht hW => ⟨⟨(-1), (I106, L107), rfl, hv, mm_mv ht hP⟩, hS.F ht⟩) hS.2.2 d_X6_step_26
  · have hv := hv.2 hc
    refine lv_aload_n hx hb d_X6_step_8 rfl (lv_at hl 0 rfl) ?_
    refine mm_gr (D := G.1) (C := RX6) (T := TX6) (N0 := 3) (r := 1) hx hb hg in_X6 hown hK hP (t := 0) (by decide) rfl rfl 0 (by decide) (hg _ k_34) (fun _ h9 => h9) rfl d_X6_step_9 ?_
    refine mm_gr (D := G.1) (C := RX2) (T := TX2) (N0 := 4) (r := 11) hx hb hg in_X2 hown hK hP (t := 1) (by decide) rfl rfl 2 (by decide) (hg _ k_46) (fun _ h9 => h9) rfl d_X6_step_12 ?_
    refine lv_iload_n hx hb d_X6_step_15 rfl (lv_at hl 1 rfl) ?_
    obtain ⟨h109, hv⟩ := hv
    refine mm_aald (D := G.1) hx hb hK hP (t := 11) (by decide) rfl rfl h109 (r := (18 + x1.toNatClampNeg)) (rfl) d_X6_step_16 ?_
    refine lv_iload_n hx hb d_X6_step_17 rfl (lv_at hl 2 rfl) ?_
    refine lv_iload_n hx hb d_X6_step_18 rfl (lv_at hl 3 rfl) ?_
    refine va_calli (va_runV (As := [.int x2, .int x3]) (rest := []) ⟨hx, hb, hml, hown, hg⟩ (m_X4_addStep l G (x1.toNatClampNeg) x2 x3 I106 L107 _ (mm_lt h109) hv) (cwV 2 hg (mm_gV k_47 k_48 k_49 k_50 kc_X4_addStep) rfl rfl rfl (by decide +kernel) ⟨Nat.le_of_ble_eq_true rfl, Nat.le_of_ble_eq_true rfl⟩) ⟨mm_blind, mm_recv hK hP (t := (18 + x1.toNatClampNeg)) (ly_N_TB (mm_lt h109)) (ly_TB (mm_lt h109)) rfl, fun U hU hW => mm_call hP hK hD hC hU hS hW⟩ rfl rfl hl.1 rfl (lv_room (Nat.le_of_ble_eq_true rfl)) d_X6_step_19 ⟨Nat.zero_le _, Nat.zero_le _⟩) hS (fun q _ h => h) (fun q h => h) (fun r112 u t H locs ht hvm hv hP hz1 hk1 hS => ?_)
    obtain ⟨I110, L111⟩ := u
    dsimp only at hv hP
    rw [ht] at hP
    have hD : mm_DW G I110 L111 := mm_D_any hD
    refine lv_goto (tgt := 26) hx hb d_X6_step_22 (by decide) ?_
    exact W.iret (v := r112) hx hb hr (fun t ht hW => ⟨⟨r112, (I110, L111), rfl, hv, mm_mv ht hP⟩, hS.F ht⟩) hS.2.2 d_X6_step_26
abbrev vc_X6_step (x1 : Int32) (x2 : Int32) (x3 : Int32) (I : mm_I) (L : mm_L) (Q : Int32 → mm_I → mm_L → Prop) : Prop := vc_X6_step_0 x1 x2 x3 I L Q
set_option maxHeartbeats 4000000 in
set_option maxRecDepth 100000 in
theorem m_X6_step (l : Launch) (G : mm_G) (x1 : Int32) (x2 : Int32) (x3 : Int32) (I : mm_I) (L : mm_L) (Q : Int32 → mm_I → mm_L → Prop)  (hv : vc_X6_step x1 x2 x3 I L Q) : Met l y_X6_step w_X6_step rm_X6_step (mm_pre G [.ref (G.2.2.1 0), .int x1, .int x2, .int x3] I L) (mm_qi G Q) 0 0 G.2.2.2.1 := by
  refine Met.ofW (cc := c_X6_step) (maxL := 4) (ret := (some .int)) (by decide) rfl ?_
  intro p e s m args below meth c s₁ B hml hw
  obtain ⟨rfl, hP, hK, hD, hC⟩ := hw
  have hts := atoms_spec (ws := w_X6_step) B.pre
  have hown : s.vm.findClass RX6 = some m.cls := findClass_of_methodNamed B.named
  have hl := lv_entry ([.ref (G.2.2.1 0), .int x1, .int x2, .int x3]) (n := 4) (Nat.le_of_ble_eq_true rfl)
  rw [lg_entry_eq]
  generalize (lg_sl ([.ref (G.2.2.1 0), .int x1, .int x2, .int x3]) ++ List.replicate (4 - (lg_sl ([.ref (G.2.2.1 0), .int x1, .int x2, .int x3])).length) Slot.unset).toArray = ls at hl ⊢
  have hl : lv_has ls 4 [(0, .ref (G.2.2.1 0)), (1, .int x1), (2, .int x2), (3, .int x3)] := hl
  exact w_X6_step_0 ⟨B.exec, B.bytes, B.returns, B.notSynchronized, hml, hown, fun w h => hts w (List.mem_cons_of_mem _ h), hK, hC⟩ x1 x2 x3 I L Q  hv hP hD va_S.rf hl
abbrev rm_X4_loseSteps : Room := { frames := 0, cells := 0, slots := 0, locals := 0 }
def vc_X4_loseSteps_0 (p0 : Nat) (I : mm_I) (L : mm_L) (Q : Int32 → mm_I → mm_L → Prop) : Prop :=
  Q (I (18 + p0) 2) (mm_uI I (18 + p0) 2 0) L
set_option maxHeartbeats 4000000 in
set_option maxRecDepth 100000 in
theorem w_X4_loseSteps_0 {p : Program} {l : Launch} {e : Env} {s : State} {m : MethodId} {args : Array Value} {below : List Frame} {meth : Method} {c : Code} {G : mm_G} (hcx : mm_cx c_X4_loseSteps (some .int) 2 RX4 G p s m args meth c) (p0 : Nat) (I : mm_I) (L : mm_L) (Q : Int32 → mm_I → mm_L → Prop) (hp0 : p0 < 2) (hv : vc_X4_loseSteps_0 p0 I L Q) {H : Heap} {locs : List Loc} (hP : mm_PW G I L H) (hD : mm_DW G I L) (hS : va_S G.2.2.2.1 s.heap H locs) {ls : Array Slot} (hl : lv_has ls 2 [(0, .ref (G.2.2.1 (18 + p0)))]) : W p l e (headSpec w_X4_loseSteps rm_X4_loseSteps).room s m args below meth c H locs 0 0 (MQ below (mm_qi G Q) args s 0 0 G.2.2.2.1) (F0 m 0 ls []) := by
  obtain ⟨hx, hb, hr, hlocks, hml, hown, hg, hK, hC⟩ := id hcx
  unfold vc_X4_loseSteps_0 at hv
  refine lv_aload_n hx hb d_X4_loseSteps_0 rfl (lv_at hl 0 rfl) ?_
  refine mm_gi (D := G.1) (C := RX4) (T := TX4) (N0 := 3) hx hb hg in_X4 hown hK hP (t := (18 + p0)) (ly_N_TB hp0) (ly_TB hp0) rfl 2 (by decide) (hg _ k_43) (fun _ h9 => h9) rfl d_X4_loseSteps_1 ?_
  refine lv_istore_n (lv' := [(1, .int (I (18 + p0) 2)), (0, .ref (G.2.2.1 (18 + p0)))]) hx hb d_X4_loseSteps_4 rfl hl (by decide) rfl (fun ls hl => ?_)
  refine lv_aload_n hx hb d_X4_loseSteps_5 rfl (lv_at hl 1 rfl) ?_
  refine lv_iconst (v := 0) hx hb d_X4_loseSteps_6 (by decide) ?_
  refine mm_pi (D := G.1) (C := RX4) (T := TX4) (N0 := 3) (ty := .int) hx hb hg in_X4 tyX4 tyX4_ok nmX4 hown hK hP hD hS (t := (18 + p0)) (ly_N_TB hp0) (ly_TB hp0) rfl 2 (by decide) (hg _ k_43) (fun _ h9 => h9) rfl (by decide +kernel) rfl rfl rfl d_X4_loseSteps_7 (fun H locs hP hD hS => ?_)
  refine lv_iload_n hx hb d_X4_loseSteps_10 rfl (lv_at hl 0 rfl) ?_
  exact W.iret (v := (I (18 + p0) 2)) hx hb hr (fun t ht hW => ⟨⟨(I (18 + p0) 2), ((mm_uI I (18 + p0) 2 0), L), rfl, hv, mm_mv ht hP⟩, hS.F ht⟩) hS.2.2 d_X4_loseSteps_11
abbrev vc_X4_loseSteps (p0 : Nat) (I : mm_I) (L : mm_L) (Q : Int32 → mm_I → mm_L → Prop) : Prop := vc_X4_loseSteps_0 p0 I L Q
set_option maxHeartbeats 4000000 in
set_option maxRecDepth 100000 in
theorem m_X4_loseSteps (l : Launch) (G : mm_G) (p0 : Nat) (I : mm_I) (L : mm_L) (Q : Int32 → mm_I → mm_L → Prop) (hp0 : p0 < 2) (hv : vc_X4_loseSteps p0 I L Q) : Met l y_X4_loseSteps w_X4_loseSteps rm_X4_loseSteps (mm_pre G [.ref (G.2.2.1 (18 + p0))] I L) (mm_qi G Q) 0 0 G.2.2.2.1 := by
  refine Met.ofW (cc := c_X4_loseSteps) (maxL := 2) (ret := (some .int)) (by decide) rfl ?_
  intro p e s m args below meth c s₁ B hml hw
  obtain ⟨rfl, hP, hK, hD, hC⟩ := hw
  have hts := atoms_spec (ws := w_X4_loseSteps) B.pre
  have hown : s.vm.findClass RX4 = some m.cls := findClass_of_methodNamed B.named
  have hl := lv_entry ([.ref (G.2.2.1 (18 + p0))]) (n := 2) (Nat.le_of_ble_eq_true rfl)
  rw [lg_entry_eq]
  generalize (lg_sl ([.ref (G.2.2.1 (18 + p0))]) ++ List.replicate (2 - (lg_sl ([.ref (G.2.2.1 (18 + p0))])).length) Slot.unset).toArray = ls at hl ⊢
  have hl : lv_has ls 2 [(0, .ref (G.2.2.1 (18 + p0)))] := hl
  exact w_X4_loseSteps_0 ⟨B.exec, B.bytes, B.returns, B.notSynchronized, hml, hown, fun w h => hts w (List.mem_cons_of_mem _ h), hK, hC⟩ p0 I L Q hp0 hv hP hD va_S.rf hl
abbrev rm_X6_clear : Room := { frames := 1, cells := 0, slots := 0, locals := 21 }
def vc_X6_clear_0 (x1 : Int32) (I : mm_I) (L : mm_L) (Q : Int32 → mm_I → mm_L → Prop) : Prop :=
  vc_X6_within x1 2 I L (fun r115 I113 L114 => (r115 = 0 → Q (-1) I113 L114) ∧ (¬ r115 = 0 → vp_in x1 2 ∧ vc_X4_loseSteps (x1.toNatClampNeg) I113 L114 (fun r119 I117 L118 => Q r119 I117 L118)))
set_option maxHeartbeats 4000000 in
set_option maxRecDepth 100000 in
theorem w_X6_clear_0 {p : Program} {l : Launch} {e : Env} {s : State} {m : MethodId} {args : Array Value} {below : List Frame} {meth : Method} {c : Code} {G : mm_G} (hcx : mm_cx c_X6_clear (some .int) 2 RX6 G p s m args meth c) (x1 : Int32) (I : mm_I) (L : mm_L) (Q : Int32 → mm_I → mm_L → Prop)  (hv : vc_X6_clear_0 x1 I L Q) {H : Heap} {locs : List Loc} (hP : mm_PW G I L H) (hD : mm_DW G I L) (hS : va_S G.2.2.2.1 s.heap H locs) {ls : Array Slot} (hl : lv_has ls 2 [(0, .ref (G.2.2.1 0)), (1, .int x1)]) : W p l e (headSpec w_X6_clear rm_X6_clear).room s m args below meth c H locs 0 0 (MQ below (mm_qi G Q) args s 0 0 G.2.2.2.1) (F0 m 0 ls []) := by
  obtain ⟨hx, hb, hr, hlocks, hml, hown, hg, hK, hC⟩ := id hcx
  unfold vc_X6_clear_0 at hv
  refine lv_iload_n hx hb d_X6_clear_0 rfl (lv_at hl 1 rfl) ?_
  refine lv_iconst (v := 2) hx hb d_X6_clear_1 (by decide) ?_
  refine va_calli (va_runS (As := [.int x1, .int 2]) (rest := []) ⟨hx, hb, hml, hown, hg⟩ (m_X6_within l G x1 2 I L _  hv) (va_cwS 2 hg (mm_gS k_42 k_2 k_1 kc_X6_within) rfl rfl rfl (by decide +kernel) ⟨Nat.le_of_ble_eq_true rfl, Nat.le_of_ble_eq_true rfl⟩) ⟨mm_blind, fun U hU hW => mm_call hP hK hD hC hU hS hW⟩ rfl rfl hl.1 rfl (lv_room (Nat.le_of_ble_eq_true rfl)) d_X6_clear_2 ⟨Nat.zero_le _, Nat.zero_le _⟩) hS (fun q _ h => h) (fun q h => h) (fun r115 u t H locs ht hvm hv hP hz1 hk1 hS => ?_)
  obtain ⟨I113, L114⟩ := u
  dsimp only at hv hP
  rw [ht] at hP
  have hD : mm_DW G I113 L114 := mm_D_any hD
  refine lv_if_eq (tgt := 23) hx hb d_X6_clear_5 (by decide) (fun hc => ?_) (fun hc => ?_)
  · have hv := hv.1 hc
    refine lv_iconst (v := (-1)) hx hb d_X6_clear_23 (by decide) ?_
    exact W.iret (v := (-1)) hx hb hr (fun t ht hW => ⟨⟨(-1), (I113, L114), rfl, hv, mm_mv ht hP⟩, hS.F ht⟩) hS.2.2 d_X6_clear_24
  · have hv := hv.2 hc
    refine lv_aload_n hx hb d_X6_clear_8 rfl (lv_at hl 0 rfl) ?_
    refine mm_gr (D := G.1) (C := RX6) (T := TX6) (N0 := 3) (r := 1) hx hb hg in_X6 hown hK hP (t := 0) (by decide) rfl rfl 0 (by decide) (hg _ k_34) (fun _ h9 => h9) rfl d_X6_clear_9 ?_
    refine mm_gr (D := G.1) (C := RX2) (T := TX2) (N0 := 4) (r := 11) hx hb hg in_X2 hown hK hP (t := 1) (by decide) rfl rfl 2 (by decide) (hg _ k_46) (fun _ h9 => h9) rfl d_X6_clear_12 ?_
    refine lv_iload_n hx hb d_X6_clear_15 rfl (lv_at hl 1 rfl) ?_
    obtain ⟨h116, hv⟩ := hv
    refine mm_aald (D := G.1) hx hb hK hP (t := 11) (by decide) rfl rfl h116 (r := (18 + x1.toNatClampNeg)) (rfl) d_X6_clear_16 ?_
    refine va_calli (va_runV (As := []) (rest := []) ⟨hx, hb, hml, hown, hg⟩ (m_X4_loseSteps l G (x1.toNatClampNeg) I113 L114 _ (mm_lt h116) hv) (cwV 0 hg (mm_gV k_51 k_52 k_53 k_50 kc_X4_loseSteps) rfl rfl rfl (by decide +kernel) ⟨Nat.le_of_ble_eq_true rfl, Nat.le_of_ble_eq_true rfl⟩) ⟨mm_blind, mm_recv hK hP (t := (18 + x1.toNatClampNeg)) (ly_N_TB (mm_lt h116)) (ly_TB (mm_lt h116)) rfl, fun U hU hW => mm_call hP hK hD hC hU hS hW⟩ rfl rfl hl.1 rfl (lv_room (Nat.le_of_ble_eq_true rfl)) d_X6_clear_17 ⟨Nat.zero_le _, Nat.zero_le _⟩) hS (fun q _ h => h) (fun q h => h) (fun r119 u t H locs ht hvm hv hP hz1 hk1 hS => ?_)
    obtain ⟨I117, L118⟩ := u
    dsimp only at hv hP
    rw [ht] at hP
    have hD : mm_DW G I117 L118 := mm_D_any hD
    refine lv_goto (tgt := 24) hx hb d_X6_clear_20 (by decide) ?_
    exact W.iret (v := r119) hx hb hr (fun t ht hW => ⟨⟨r119, (I117, L118), rfl, hv, mm_mv ht hP⟩, hS.F ht⟩) hS.2.2 d_X6_clear_24
abbrev vc_X6_clear (x1 : Int32) (I : mm_I) (L : mm_L) (Q : Int32 → mm_I → mm_L → Prop) : Prop := vc_X6_clear_0 x1 I L Q
set_option maxHeartbeats 4000000 in
set_option maxRecDepth 100000 in
theorem m_X6_clear (l : Launch) (G : mm_G) (x1 : Int32) (I : mm_I) (L : mm_L) (Q : Int32 → mm_I → mm_L → Prop)  (hv : vc_X6_clear x1 I L Q) : Met l y_X6_clear w_X6_clear rm_X6_clear (mm_pre G [.ref (G.2.2.1 0), .int x1] I L) (mm_qi G Q) 0 0 G.2.2.2.1 := by
  refine Met.ofW (cc := c_X6_clear) (maxL := 2) (ret := (some .int)) (by decide) rfl ?_
  intro p e s m args below meth c s₁ B hml hw
  obtain ⟨rfl, hP, hK, hD, hC⟩ := hw
  have hts := atoms_spec (ws := w_X6_clear) B.pre
  have hown : s.vm.findClass RX6 = some m.cls := findClass_of_methodNamed B.named
  have hl := lv_entry ([.ref (G.2.2.1 0), .int x1]) (n := 2) (Nat.le_of_ble_eq_true rfl)
  rw [lg_entry_eq]
  generalize (lg_sl ([.ref (G.2.2.1 0), .int x1]) ++ List.replicate (2 - (lg_sl ([.ref (G.2.2.1 0), .int x1])).length) Slot.unset).toArray = ls at hl ⊢
  have hl : lv_has ls 2 [(0, .ref (G.2.2.1 0)), (1, .int x1)] := hl
  exact w_X6_clear_0 ⟨B.exec, B.bytes, B.returns, B.notSynchronized, hml, hown, fun w h => hts w (List.mem_cons_of_mem _ h), hK, hC⟩ x1 I L Q  hv hP hD va_S.rf hl
abbrev rm_X6_input : Room := { frames := 1, cells := 0, slots := 0, locals := 21 }
def vc_X6_input_0 (x1 : Int32) (x2 : Int32) (x3 : Int32) (I : mm_I) (L : mm_L) (Q : Int32 → mm_I → mm_L → Prop) : Prop :=
  vc_X6_within x1 6 I L (fun r122 I120 L121 => (r122 = 0 → Q (-1) I120 L121) ∧ (¬ r122 = 0 → vc_X6_within x2 8 I120 L121 (fun r125 I123 L124 => (¬ r125 = 0 → vp_in x1 6 ∧ vp_in x2 8 ∧ Q 0 (mm_uI I123 (30 + x1.toNatClampNeg) x2.toNatClampNeg x3) L124) ∧ (r125 = 0 → Q (-1) I123 L124))))
set_option maxHeartbeats 4000000 in
set_option maxRecDepth 100000 in
theorem w_X6_input_0 {p : Program} {l : Launch} {e : Env} {s : State} {m : MethodId} {args : Array Value} {below : List Frame} {meth : Method} {c : Code} {G : mm_G} (hcx : mm_cx c_X6_input (some .int) 4 RX6 G p s m args meth c) (x1 : Int32) (x2 : Int32) (x3 : Int32) (I : mm_I) (L : mm_L) (Q : Int32 → mm_I → mm_L → Prop)  (hv : vc_X6_input_0 x1 x2 x3 I L Q) {H : Heap} {locs : List Loc} (hP : mm_PW G I L H) (hD : mm_DW G I L) (hS : va_S G.2.2.2.1 s.heap H locs) {ls : Array Slot} (hl : lv_has ls 4 [(0, .ref (G.2.2.1 0)), (1, .int x1), (2, .int x2), (3, .int x3)]) : W p l e (headSpec w_X6_input rm_X6_input).room s m args below meth c H locs 0 0 (MQ below (mm_qi G Q) args s 0 0 G.2.2.2.1) (F0 m 0 ls []) := by
  obtain ⟨hx, hb, hr, hlocks, hml, hown, hg, hK, hC⟩ := id hcx
  unfold vc_X6_input_0 at hv
  refine lv_iload_n hx hb d_X6_input_0 rfl (lv_at hl 1 rfl) ?_
  refine lv_bipush (v := 6) hx hb d_X6_input_1 (by decide) ?_
  refine va_calli (va_runS (As := [.int x1, .int 6]) (rest := []) ⟨hx, hb, hml, hown, hg⟩ (m_X6_within l G x1 6 I L _  hv) (va_cwS 2 hg (mm_gS k_42 k_2 k_1 kc_X6_within) rfl rfl rfl (by decide +kernel) ⟨Nat.le_of_ble_eq_true rfl, Nat.le_of_ble_eq_true rfl⟩) ⟨mm_blind, fun U hU hW => mm_call hP hK hD hC hU hS hW⟩ rfl rfl hl.1 rfl (lv_room (Nat.le_of_ble_eq_true rfl)) d_X6_input_3 ⟨Nat.zero_le _, Nat.zero_le _⟩) hS (fun q _ h => h) (fun q h => h) (fun r122 u t H locs ht hvm hv hP hz1 hk1 hS => ?_)
  obtain ⟨I120, L121⟩ := u
  dsimp only at hv hP
  rw [ht] at hP
  have hD : mm_DW G I120 L121 := mm_D_any hD
  refine lv_if_eq (tgt := 18) hx hb d_X6_input_6 (by decide) (fun hc => ?_) (fun hc => ?_)
  · have hv := hv.1 hc
    refine lv_iconst (v := (-1)) hx hb d_X6_input_18 (by decide) ?_
    exact W.iret (v := (-1)) hx hb hr (fun t ht hW => ⟨⟨(-1), (I120, L121), rfl, hv, mm_mv ht hP⟩, hS.F ht⟩) hS.2.2 d_X6_input_19
  · have hv := hv.2 hc
    refine lv_iload_n hx hb d_X6_input_9 rfl (lv_at hl 2 rfl) ?_
    refine lv_bipush (v := 8) hx hb d_X6_input_10 (by decide) ?_
    refine va_calli (va_runS (As := [.int x2, .int 8]) (rest := []) ⟨hx, hb, hml, hown, hg⟩ (m_X6_within l G x2 8 I120 L121 _  hv) (va_cwS 2 hg (mm_gS k_42 k_2 k_1 kc_X6_within) rfl rfl rfl (by decide +kernel) ⟨Nat.le_of_ble_eq_true rfl, Nat.le_of_ble_eq_true rfl⟩) ⟨mm_blind, fun U hU hW => mm_call hP hK hD hC hU hS hW⟩ rfl rfl hl.1 rfl (lv_room (Nat.le_of_ble_eq_true rfl)) d_X6_input_12 ⟨Nat.zero_le _, Nat.zero_le _⟩) hS (fun q _ h => h) (fun q h => h) (fun r125 u t H locs ht hvm hv hP hz1 hk1 hS => ?_)
    obtain ⟨I123, L124⟩ := u
    dsimp only at hv hP
    rw [ht] at hP
    have hD : mm_DW G I123 L124 := mm_D_any hD
    refine lv_if_ne (tgt := 20) hx hb d_X6_input_15 (by decide) (fun hc => ?_) (fun hc => ?_)
    · have hv := hv.1 hc
      refine lv_aload_n hx hb d_X6_input_20 rfl (lv_at hl 0 rfl) ?_
      refine mm_gr (D := G.1) (C := RX6) (T := TX6) (N0 := 3) (r := 13) hx hb hg in_X6 hown hK hP (t := 0) (by decide) rfl rfl 1 (by decide) (hg _ k_54) (fun _ h9 => h9) rfl d_X6_input_21 ?_
      refine lv_iload_n hx hb d_X6_input_24 rfl (lv_at hl 1 rfl) ?_
      obtain ⟨h126, hv⟩ := hv
      refine mm_aald (D := G.1) hx hb hK hP (t := 13) (by decide) rfl rfl h126 (r := (24 + x1.toNatClampNeg)) (rfl) d_X6_input_25 ?_
      refine mm_gr (D := G.1) (C := RX1) (T := TX1) (N0 := 4) (r := (30 + x1.toNatClampNeg)) hx hb hg in_X1 hown hK hP (t := (24 + x1.toNatClampNeg)) (ly_N_PS (mm_lt h126)) (ly_PS (mm_lt h126)) rfl 0 (by decide) (hg _ k_55) (fun _ h9 => h9) rfl d_X6_input_26 ?_
      refine lv_iload_n hx hb d_X6_input_29 rfl (lv_at hl 2 rfl) ?_
      refine lv_iload_n hx hb d_X6_input_30 rfl (lv_at hl 3 rfl) ?_
      obtain ⟨h127, hv⟩ := hv
      refine mm_iast (D := G.1) hx hb hK hP hD hS (t := (30 + x1.toNatClampNeg)) (ly_N_INP (mm_lt h126)) (ly_INP (mm_lt h126)) rfl h127 d_X6_input_31 (fun H locs hP hD hS => ?_)
      refine lv_iconst (v := 0) hx hb d_X6_input_32 (by decide) ?_
      exact W.iret (v := 0) hx hb hr (fun t ht hW => ⟨⟨0, ((mm_uI I123 (30 + x1.toNatClampNeg) x2.toNatClampNeg x3), L124), rfl, hv, mm_mv ht hP⟩, hS.F ht⟩) hS.2.2 d_X6_input_33
    · have hv := hv.2 hc
      refine lv_iconst (v := (-1)) hx hb d_X6_input_18 (by decide) ?_
      exact W.iret (v := (-1)) hx hb hr (fun t ht hW => ⟨⟨(-1), (I123, L124), rfl, hv, mm_mv ht hP⟩, hS.F ht⟩) hS.2.2 d_X6_input_19
abbrev vc_X6_input (x1 : Int32) (x2 : Int32) (x3 : Int32) (I : mm_I) (L : mm_L) (Q : Int32 → mm_I → mm_L → Prop) : Prop := vc_X6_input_0 x1 x2 x3 I L Q
set_option maxHeartbeats 4000000 in
set_option maxRecDepth 100000 in
theorem m_X6_input (l : Launch) (G : mm_G) (x1 : Int32) (x2 : Int32) (x3 : Int32) (I : mm_I) (L : mm_L) (Q : Int32 → mm_I → mm_L → Prop)  (hv : vc_X6_input x1 x2 x3 I L Q) : Met l y_X6_input w_X6_input rm_X6_input (mm_pre G [.ref (G.2.2.1 0), .int x1, .int x2, .int x3] I L) (mm_qi G Q) 0 0 G.2.2.2.1 := by
  refine Met.ofW (cc := c_X6_input) (maxL := 4) (ret := (some .int)) (by decide) rfl ?_
  intro p e s m args below meth c s₁ B hml hw
  obtain ⟨rfl, hP, hK, hD, hC⟩ := hw
  have hts := atoms_spec (ws := w_X6_input) B.pre
  have hown : s.vm.findClass RX6 = some m.cls := findClass_of_methodNamed B.named
  have hl := lv_entry ([.ref (G.2.2.1 0), .int x1, .int x2, .int x3]) (n := 4) (Nat.le_of_ble_eq_true rfl)
  rw [lg_entry_eq]
  generalize (lg_sl ([.ref (G.2.2.1 0), .int x1, .int x2, .int x3]) ++ List.replicate (4 - (lg_sl ([.ref (G.2.2.1 0), .int x1, .int x2, .int x3])).length) Slot.unset).toArray = ls at hl ⊢
  have hl : lv_has ls 4 [(0, .ref (G.2.2.1 0)), (1, .int x1), (2, .int x2), (3, .int x3)] := hl
  exact w_X6_input_0 ⟨B.exec, B.bytes, B.returns, B.notSynchronized, hml, hown, fun w h => hts w (List.mem_cons_of_mem _ h), hK, hC⟩ x1 x2 x3 I L Q  hv hP hD va_S.rf hl
