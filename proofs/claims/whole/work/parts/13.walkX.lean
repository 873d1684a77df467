abbrev rm_X6_unpayAll : Room := { frames := 2, cells := 0, slots := 0, locals := 44 }
def vc_X6_unpayAll_2 : Nat → Int32 → Int32 → mm_I → mm_L → (mm_I → mm_L → Prop) → Prop
  | 0, _, _, _, _, _ => False
  | n9 + 1, x1, x2, I, L, Q => (6 ≤ x2 → Q I L) ∧ (¬ 6 ≤ x2 → vc_X3_hasSlip x1 x2 I L (fun r429 I427 L428 => (r429 = 0 → vc_X6_unpayAll_2 n9 x1 (x2 + 1) I427 L428 Q) ∧ (¬ r429 = 0 → vp_in x2 6 ∧ vc_X3_amountOf x1 x2 0 I427 L428 (fun r433 I431 L432 => vc_X3_amountOf x1 x2 1 I431 L432 (fun r436 I434 L435 => vc_X1_grow (x2.toNatClampNeg) (-r433) (-r436) I434 L435 (fun I437 L438 => vc_X6_unpayAll_2 n9 x1 (x2 + 1) I437 L438 Q))))))
def vc_X6_unpayAll_0 (x1 : Int32) (I : mm_I) (L : mm_L) (Q : mm_I → mm_L → Prop) : Prop :=
  ∃ n, vc_X6_unpayAll_2 n x1 0 I L Q
set_option maxHeartbeats 4000000 in
set_option maxRecDepth 100000 in
theorem w_X6_unpayAll_2 {p : Program} {l : Launch} {e : Env} {s : State} {m : MethodId} {args : Array Value} {below : List Frame} {meth : Method} {c : Code} {G : mm_G} (hcx : mm_cx c_X6_unpayAll none 3 RX6 G p s m args meth c) (Q : mm_I → mm_L → Prop) : ∀ (n9 : Nat) (x1 : Int32) (x2 : Int32) (I : mm_I) (L : mm_L)  (H : Heap) (locs : List Loc) (ls : Array Slot), vc_X6_unpayAll_2 n9 x1 x2 I L Q → mm_PW G I L H → mm_DW G I L → va_S G.2.2.2.1 s.heap H locs → lv_has ls 3 [(0, .ref (G.2.2.1 0)), (1, .int x1), (2, .int x2)] → W p l e (headSpec w_X6_unpayAll rm_X6_unpayAll).room s m args below meth c H locs 0 0 (MQ below (mm_qv G Q) args s 0 0 G.2.2.2.1) (F0 m 2 ls []) := by
  obtain ⟨hx, hb, hr, hlocks, hml, hown, hg, hK, hC⟩ := id hcx
  intro n9
  induction n9 with
  | zero => intro x1 x2 I L H locs ls hv hP hD hS hl; exact hv.elim
  | succ n9 ih =>
    intro x1 x2 I L H locs ls hv hP hD hS hl
    rw [vc_X6_unpayAll_2] at hv
    refine lv_iload_n hx hb d_X6_unpayAll_2 rfl (lv_at hl 2 rfl) ?_
    refine lv_bipush (v := 6) hx hb d_X6_unpayAll_3 (by decide) ?_
    refine lv_icmp_ge (tgt := 57) hx hb d_X6_unpayAll_5 (by decide) (fun hc => ?_) (fun hc => ?_)
    · have hv := hv.1 hc
      exact W.vret hx hb hr (fun t ht hW => ⟨⟨(I, L), rfl, hv, mm_mv ht hP⟩, hS.F ht⟩) hS.2.2 d_X6_unpayAll_57
    · have hv := hv.2 hc
      refine lv_aload_n hx hb d_X6_unpayAll_8 rfl (lv_at hl 0 rfl) ?_
      refine mm_gr (D := G.1) (C := RX6) (T := TX6) (N0 := 3) (r := 14) hx hb hg in_X6 hown hK hP (t := 0) (by decide) rfl rfl 2 (by decide) (hg _ k_152) (fun _ h9 => h9) rfl d_X6_unpayAll_9 ?_
      refine lv_iload_n hx hb d_X6_unpayAll_12 rfl (lv_at hl 1 rfl) ?_
      refine lv_iload_n hx hb d_X6_unpayAll_13 rfl (lv_at hl 2 rfl) ?_
      refine va_calli (va_runV (As := [.int x1, .int x2]) (rest := []) ⟨hx, hb, hml, hown, hg⟩ (m_X3_hasSlip l G x1 x2 I L _  hv) (cwV 2 hg (mm_gV k_180 k_181 k_182 k_139 kc_X3_hasSlip) rfl rfl rfl (by decide +kernel) ⟨Nat.le_of_ble_eq_true rfl, Nat.le_of_ble_eq_true rfl⟩) ⟨mm_blind, mm_recv hK hP (t := 14) (by decide) rfl rfl, fun U hU hW => mm_call hP hK hD hC hU hS hW⟩ rfl rfl hl.1 rfl (lv_room (Nat.le_of_ble_eq_true rfl)) d_X6_unpayAll_14 ⟨Nat.zero_le _, Nat.zero_le _⟩) hS (fun q _ h => h) (fun q h => h) (fun r429 u t H locs ht hvm hv hP hz1 hk1 hS => ?_)
      obtain ⟨I427, L428⟩ := u
      dsimp only at hv hP
      rw [ht] at hP
      have hD : mm_DW G I427 L428 := mm_D_any hD
      refine lv_if_eq (tgt := 51) hx hb d_X6_unpayAll_17 (by decide) (fun hc => ?_) (fun hc => ?_)
      · have hv := hv.1 hc
        refine lv_iinc (v := (x2 + 1)) (lv' := [(2, .int (x2 + 1)), (0, .ref (G.2.2.1 0)), (1, .int x1)]) hx hb d_X6_unpayAll_51 hl (k := 2) rfl (by rfl) (by decide) rfl (fun ls hl => ?_)
        refine lv_goto (tgt := 2) hx hb d_X6_unpayAll_54 (by decide) ?_
        exact ih x1 (x2 + 1) I427 L428  H locs ls hv hP hD hS (lv_sub hl [1, 2, 0] rfl)
      · have hv := hv.2 hc
        refine lv_aload_n hx hb d_X6_unpayAll_20 rfl (lv_at hl 0 rfl) ?_
        refine mm_gr (D := G.1) (C := RX6) (T := TX6) (N0 := 3) (r := 13) hx hb hg in_X6 hown hK hP (t := 0) (by decide) rfl rfl 1 (by decide) (hg _ k_54) (fun _ h9 => h9) rfl d_X6_unpayAll_21 ?_
        refine lv_iload_n hx hb d_X6_unpayAll_24 rfl (lv_at hl 2 rfl) ?_
        obtain ⟨h430, hv⟩ := hv
        refine mm_aald (D := G.1) hx hb hK hP (t := 13) (by decide) rfl rfl h430 (r := (24 + x2.toNatClampNeg)) (rfl) d_X6_unpayAll_25 ?_
        refine lv_aload_n hx hb d_X6_unpayAll_26 rfl (lv_at hl 0 rfl) ?_
        refine mm_gr (D := G.1) (C := RX6) (T := TX6) (N0 := 3) (r := 14) hx hb hg in_X6 hown hK hP (t := 0) (by decide) rfl rfl 2 (by decide) (hg _ k_152) (fun _ h9 => h9) rfl d_X6_unpayAll_27 ?_
        refine lv_iload_n hx hb d_X6_unpayAll_30 rfl (lv_at hl 1 rfl) ?_
        refine lv_iload_n hx hb d_X6_unpayAll_31 rfl (lv_at hl 2 rfl) ?_
        refine lv_iconst (v := 0) hx hb d_X6_unpayAll_32 (by decide) ?_
        refine va_calll (va_runV (As := [.int x1, .int x2, .int 0]) (rest := [.ref (G.2.2.1 (24 + x2.toNatClampNeg))]) ⟨hx, hb, hml, hown, hg⟩ (m_X3_amountOf l G x1 x2 0 I427 L428 _  hv) (cwV 3 hg (mm_gV k_177 k_178 k_179 k_139 kc_X3_amountOf) rfl rfl rfl (by decide +kernel) ⟨Nat.le_of_ble_eq_true rfl, Nat.le_of_ble_eq_true rfl⟩) ⟨mm_blind, mm_recv hK hP (t := 14) (by decide) rfl rfl, fun U hU hW => mm_call hP hK hD hC hU hS hW⟩ rfl rfl hl.1 rfl (lv_room (Nat.le_of_ble_eq_true rfl)) d_X6_unpayAll_33 ⟨Nat.zero_le _, Nat.zero_le _⟩) hS (fun q _ h => h) (fun q h => h) (fun r433 u t H locs ht hvm hv hP hz1 hk1 hS => ?_)
        obtain ⟨I431, L432⟩ := u
        dsimp only at hv hP
        rw [ht] at hP
        have hD : mm_DW G I431 L432 := mm_D_any hD
        refine lv_lneg hx hb d_X6_unpayAll_36 ?_
        refine lv_aload_n hx hb d_X6_unpayAll_37 rfl (lv_at hl 0 rfl) ?_
        refine mm_gr (D := G.1) (C := RX6) (T := TX6) (N0 := 3) (r := 14) hx hb hg in_X6 hown hK hP (t := 0) (by decide) rfl rfl 2 (by decide) (hg _ k_152) (fun _ h9 => h9) rfl d_X6_unpayAll_38 ?_
        refine lv_iload_n hx hb d_X6_unpayAll_41 rfl (lv_at hl 1 rfl) ?_
        refine lv_iload_n hx hb d_X6_unpayAll_42 rfl (lv_at hl 2 rfl) ?_
        refine lv_iconst (v := 1) hx hb d_X6_unpayAll_43 (by decide) ?_
        refine va_calll (va_runV (As := [.int x1, .int x2, .int 1]) (rest := [.long (-r433), .ref (G.2.2.1 (24 + x2.toNatClampNeg))]) ⟨hx, hb, hml, hown, hg⟩ (m_X3_amountOf l G x1 x2 1 I431 L432 _  hv) (cwV 3 hg (mm_gV k_177 k_178 k_179 k_139 kc_X3_amountOf) rfl rfl rfl (by decide +kernel) ⟨Nat.le_of_ble_eq_true rfl, Nat.le_of_ble_eq_true rfl⟩) ⟨mm_blind, mm_recv hK hP (t := 14) (by decide) rfl rfl, fun U hU hW => mm_call hP hK hD hC hU hS hW⟩ rfl rfl hl.1 rfl (lv_room (Nat.le_of_ble_eq_true rfl)) d_X6_unpayAll_44 ⟨Nat.zero_le _, Nat.zero_le _⟩) hS (fun q _ h => h) (fun q h => h) (fun r436 u t H locs ht hvm hv hP hz1 hk1 hS => ?_)
        obtain ⟨I434, L435⟩ := u
        dsimp only at hv hP
        rw [ht] at hP
        have hD : mm_DW G I434 L435 := mm_D_any hD
        refine lv_lneg hx hb d_X6_unpayAll_47 ?_
        refine va_callv (va_runV (As := [.long (-r433), .long (-r436)]) (rest := []) ⟨hx, hb, hml, hown, hg⟩ (m_X1_grow l G (x2.toNatClampNeg) (-r433) (-r436) I434 L435 _ (mm_lt h430) hv) (cwV 2 hg (mm_gV k_153 k_154 k_155 k_102 kc_X1_grow) rfl rfl rfl (by decide +kernel) ⟨Nat.le_of_ble_eq_true rfl, Nat.le_of_ble_eq_true rfl⟩) ⟨mm_blind, mm_recv hK hP (t := (24 + x2.toNatClampNeg)) (ly_N_PS (mm_lt h430)) (ly_PS (mm_lt h430)) rfl, fun U hU hW => mm_call hP hK hD hC hU hS hW⟩ rfl rfl hl.1 rfl (lv_room (Nat.le_of_ble_eq_true rfl)) d_X6_unpayAll_48 ⟨Nat.zero_le _, Nat.zero_le _⟩) hS (fun q _ h => h) (fun q h => h) (fun u t H locs ht hvm hv hP hz1 hk1 hS => ?_)
        obtain ⟨I437, L438⟩ := u
        dsimp only at hv hP
        rw [ht] at hP
        have hD : mm_DW G I437 L438 := mm_D_any hD
        refine lv_iinc (v := (x2 + 1)) (lv' := [(2, .int (x2 + 1)), (0, .ref (G.2.2.1 0)), (1, .int x1)]) hx hb d_X6_unpayAll_51 hl (k := 2) rfl (by rfl) (by decide) rfl (fun ls hl => ?_)
        refine lv_goto (tgt := 2) hx hb d_X6_unpayAll_54 (by decide) ?_
        exact ih x1 (x2 + 1) I437 L438  H locs ls hv hP hD hS (lv_sub hl [1, 2, 0] rfl)
set_option maxHeartbeats 4000000 in
set_option maxRecDepth 100000 in
theorem w_X6_unpayAll_0 {p : Program} {l : Launch} {e : Env} {s : State} {m : MethodId} {args : Array Value} {below : List Frame} {meth : Method} {c : Code} {G : mm_G} (hcx : mm_cx c_X6_unpayAll none 3 RX6 G p s m args meth c) (x1 : Int32) (I : mm_I) (L : mm_L) (Q : mm_I → mm_L → Prop)  (hv : vc_X6_unpayAll_0 x1 I L Q) {H : Heap} {locs : List Loc} (hP : mm_PW G I L H) (hD : mm_DW G I L) (hS : va_S G.2.2.2.1 s.heap H locs) {ls : Array Slot} (hl : lv_has ls 3 [(0, .ref (G.2.2.1 0)), (1, .int x1)]) : W p l e (headSpec w_X6_unpayAll rm_X6_unpayAll).room s m args below meth c H locs 0 0 (MQ below (mm_qv G Q) args s 0 0 G.2.2.2.1) (F0 m 0 ls []) := by
  obtain ⟨hx, hb, hr, hlocks, hml, hown, hg, hK, hC⟩ := id hcx
  unfold vc_X6_unpayAll_0 at hv
  refine lv_iconst (v := 0) hx hb d_X6_unpayAll_0 (by decide) ?_
  refine lv_istore_n (lv' := [(2, .int 0), (0, .ref (G.2.2.1 0)), (1, .int x1)]) hx hb d_X6_unpayAll_1 rfl hl (by decide) rfl (fun ls hl => ?_)
  obtain ⟨n, hv⟩ := hv
  exact w_X6_unpayAll_2 hcx Q n x1 0 I L  H locs ls hv hP hD hS (lv_sub hl [1, 2, 0] rfl)
abbrev vc_X6_unpayAll (x1 : Int32) (I : mm_I) (L : mm_L) (Q : mm_I → mm_L → Prop) : Prop := vc_X6_unpayAll_0 x1 I L Q
set_option maxHeartbeats 4000000 in
set_option maxRecDepth 100000 in
theorem m_X6_unpayAll (l : Launch) (G : mm_G) (x1 : Int32) (I : mm_I) (L : mm_L) (Q : mm_I → mm_L → Prop)  (hv : vc_X6_unpayAll x1 I L Q) : Met l y_X6_unpayAll w_X6_unpayAll rm_X6_unpayAll (mm_pre G [.ref (G.2.2.1 0), .int x1] I L) (mm_qv G Q) 0 0 G.2.2.2.1 := by
  refine Met.ofW (cc := c_X6_unpayAll) (maxL := 3) (ret := none) (by decide) rfl ?_
  intro p e s m args below meth c s₁ B hml hw
  obtain ⟨rfl, hP, hK, hD, hC⟩ := hw
  have hts := atoms_spec (ws := w_X6_unpayAll) B.pre
  have hown : s.vm.findClass RX6 = some m.cls := findClass_of_methodNamed B.named
  have hl := lv_entry ([.ref (G.2.2.1 0), .int x1]) (n := 3) (Nat.le_of_ble_eq_true rfl)
  rw [lg_entry_eq]
  generalize (lg_sl ([.ref (G.2.2.1 0), .int x1]) ++ List.replicate (3 - (lg_sl ([.ref (G.2.2.1 0), .int x1])).length) Slot.unset).toArray = ls at hl ⊢
  have hl : lv_has ls 3 [(0, .ref (G.2.2.1 0)), (1, .int x1)] := hl
  exact w_X6_unpayAll_0 ⟨B.exec, B.bytes, B.returns, B.notSynchronized, hml, hown, fun w h => hts w (List.mem_cons_of_mem _ h), hK, hC⟩ x1 I L Q  hv hP hD va_S.rf hl
abbrev rm_X6_back : Room := { frames := 3, cells := 0, slots := 0, locals := 66 }
def vc_X6_back_0 (x1 : Int32) (I : mm_I) (L : mm_L) (Q : Int32 → mm_I → mm_L → Prop) : Prop :=
  vc_X3_stands x1 I L (fun r442 I440 L441 => (¬ r442 = 0 → vc_X6_unpayAll x1 I440 L441 (fun I443 L444 => vp_in x1 16 ∧ Q 0 (mm_uI I443 17 x1.toNatClampNeg (vp_nar .boolean 1)) L444)) ∧ (r442 = 0 → Q (-1) I440 L441))
set_option maxHeartbeats 4000000 in
set_option maxRecDepth 100000 in
theorem w_X6_back_0 {p : Program} {l : Launch} {e : Env} {s : State} {m : MethodId} {args : Array Value} {below : List Frame} {meth : Method} {c : Code} {G : mm_G} (hcx : mm_cx c_X6_back (some .int) 2 RX6 G p s m args meth c) (x1 : Int32) (I : mm_I) (L : mm_L) (Q : Int32 → mm_I → mm_L → Prop)  (hv : vc_X6_back_0 x1 I L Q) {H : Heap} {locs : List Loc} (hP : mm_PW G I L H) (hD : mm_DW G I L) (hS : va_S G.2.2.2.1 s.heap H locs) {ls : Array Slot} (hl : lv_has ls 2 [(0, .ref (G.2.2.1 0)), (1, .int x1)]) : W p l e (headSpec w_X6_back rm_X6_back).room s m args below meth c H locs 0 0 (MQ below (mm_qi G Q) args s 0 0 G.2.2.2.1) (F0 m 0 ls []) := by
  obtain ⟨hx, hb, hr, hlocks, hml, hown, hg, hK, hC⟩ := id hcx
  unfold vc_X6_back_0 at hv
  refine lv_aload_n hx hb d_X6_back_0 rfl (lv_at hl 0 rfl) ?_
  refine mm_gr (D := G.1) (C := RX6) (T := TX6) (N0 := 3) (r := 14) hx hb hg in_X6 hown hK hP (t := 0) (by decide) rfl rfl 2 (by decide) (hg _ k_152) (fun _ h9 => h9) rfl d_X6_back_1 ?_
  refine lv_iload_n hx hb d_X6_back_4 rfl (lv_at hl 1 rfl) ?_
  refine va_calli (va_runV (As := [.int x1]) (rest := []) ⟨hx, hb, hml, hown, hg⟩ (m_X3_stands l G x1 I L _  hv) (cwV 1 hg (mm_gV k_187 k_188 k_189 k_139 kc_X3_stands) rfl rfl rfl (by decide +kernel) ⟨Nat.le_of_ble_eq_true rfl, Nat.le_of_ble_eq_true rfl⟩) ⟨mm_blind, mm_recv hK hP (t := 14) (by decide) rfl rfl, fun U hU hW => mm_call hP hK hD hC hU hS hW⟩ rfl rfl hl.1 rfl (lv_room (Nat.le_of_ble_eq_true rfl)) d_X6_back_5 ⟨Nat.zero_le _, Nat.zero_le _⟩) hS (fun q _ h => h) (fun q h => h) (fun r442 u t H locs ht hvm hv hP hz1 hk1 hS => ?_)
  obtain ⟨I440, L441⟩ := u
  dsimp only at hv hP
  rw [ht] at hP
  have hD : mm_DW G I440 L441 := mm_D_any hD
  refine lv_if_ne (tgt := 13) hx hb d_X6_back_8 (by decide) (fun hc => ?_) (fun hc => ?_)
  · have hv := hv.1 hc
    refine lv_aload_n hx hb d_X6_back_13 rfl (lv_at hl 0 rfl) ?_
    refine lv_iload_n hx hb d_X6_back_14 rfl (lv_at hl 1 rfl) ?_
    refine va_callv (va_runV (As := [.int x1]) (rest := []) ⟨hx, hb, hml, hown, hg⟩ (m_X6_unpayAll l G x1 I440 L441 _  hv) (cwV 1 hg (mm_gV k_184 k_185 k_186 k_1 kc_X6_unpayAll) rfl rfl rfl (by decide +kernel) ⟨Nat.le_of_ble_eq_true rfl, Nat.le_of_ble_eq_true rfl⟩) ⟨mm_blind, mm_recv hK hP (t := 0) (by decide) rfl rfl, fun U hU hW => mm_call hP hK hD hC hU hS hW⟩ rfl rfl hl.1 rfl (lv_room (Nat.le_of_ble_eq_true rfl)) d_X6_back_15 ⟨Nat.zero_le _, Nat.zero_le _⟩) hS (fun q _ h => h) (fun q h => h) (fun u t H locs ht hvm hv hP hz1 hk1 hS => ?_)
    obtain ⟨I443, L444⟩ := u
    dsimp only at hv hP
    rw [ht] at hP
    have hD : mm_DW G I443 L444 := mm_D_any hD
    refine lv_aload_n hx hb d_X6_back_18 rfl (lv_at hl 0 rfl) ?_
    refine mm_gr (D := G.1) (C := RX6) (T := TX6) (N0 := 3) (r := 14) hx hb hg in_X6 hown hK hP (t := 0) (by decide) rfl rfl 2 (by decide) (hg _ k_152) (fun _ h9 => h9) rfl d_X6_back_19 ?_
    refine mm_gr (D := G.1) (C := RX3) (T := TX3) (N0 := 4) (r := 17) hx hb hg in_X3 hown hK hP (t := 14) (by decide) rfl rfl 2 (by decide) (hg _ k_183) (fun _ h9 => h9) rfl d_X6_back_22 ?_
    refine lv_iload_n hx hb d_X6_back_25 rfl (lv_at hl 1 rfl) ?_
    refine lv_iconst (v := 1) hx hb d_X6_back_26 (by decide) ?_
    obtain ⟨h446, hv⟩ := hv
    refine mm_zast (D := G.1) hx hb hK hP hD hS (t := 17) (by decide) rfl rfl h446 d_X6_back_27 (fun H locs hP hD hS => ?_)
    refine lv_iconst (v := 0) hx hb d_X6_back_28 (by decide) ?_
    exact W.iret (v := 0) hx hb hr (fun t ht hW => ⟨⟨0, ((mm_uI I443 17 x1.toNatClampNeg (vp_nar .boolean 1)), L444), rfl, hv, mm_mv ht hP⟩, hS.F ht⟩) hS.2.2 d_X6_back_29
  · have hv := hv.2 hc
    refine lv_iconst (v := (-1)) hx hb d_X6_back_11 (by decide) ?_
    exact W.iret (v := (-1)) hx hb hr (fun t ht hW => ⟨⟨(-1), (I440, L441), rfl, hv, mm_mv ht hP⟩, hS.F ht⟩) hS.2.2 d_X6_back_12
abbrev vc_X6_back (x1 : Int32) (I : mm_I) (L : mm_L) (Q : Int32 → mm_I → mm_L → Prop) : Prop := vc_X6_back_0 x1 I L Q
set_option maxHeartbeats 4000000 in
set_option maxRecDepth 100000 in
theorem m_X6_back (l : Launch) (G : mm_G) (x1 : Int32) (I : mm_I) (L : mm_L) (Q : Int32 → mm_I → mm_L → Prop)  (hv : vc_X6_back x1 I L Q) : Met l y_X6_back w_X6_back rm_X6_back (mm_pre G [.ref (G.2.2.1 0), .int x1] I L) (mm_qi G Q) 0 0 G.2.2.2.1 := by
  refine Met.ofW (cc := c_X6_back) (maxL := 2) (ret := (some .int)) (by decide) rfl ?_
  intro p e s m args below meth c s₁ B hml hw
  obtain ⟨rfl, hP, hK, hD, hC⟩ := hw
  have hts := atoms_spec (ws := w_X6_back) B.pre
  have hown : s.vm.findClass RX6 = some m.cls := findClass_of_methodNamed B.named
  have hl := lv_entry ([.ref (G.2.2.1 0), .int x1]) (n := 2) (Nat.le_of_ble_eq_true rfl)
  rw [lg_entry_eq]
  generalize (lg_sl ([.ref (G.2.2.1 0), .int x1]) ++ List.replicate (2 - (lg_sl ([.ref (G.2.2.1 0), .int x1])).length) Slot.unset).toArray = ls at hl ⊢
  have hl : lv_has ls 2 [(0, .ref (G.2.2.1 0)), (1, .int x1)] := hl
  exact w_X6_back_0 ⟨B.exec, B.bytes, B.returns, B.notSynchronized, hml, hown, fun w h => hts w (List.mem_cons_of_mem _ h), hK, hC⟩ x1 I L Q  hv hP hD va_S.rf hl
abbrev rm_X3_slipsOf : Room := { frames := 2, cells := 0, slots := 0, locals := 43 }
def vc_X3_slipsOf_4 : Nat → Int32 → Int32 → Int32 → mm_I → mm_L → (Int32 → mm_I → mm_L → Prop) → Prop
  | 0, _, _, _, _, _, _ => False
  | n9 + 1, x1, x2, x3, I, L, Q => (6 ≤ x3 → Q x2 I L) ∧ (¬ 6 ≤ x3 → vc_X3_hasSlip x1 x3 I L (fun r449 I447 L448 => (r449 = 0 → vc_X3_slipsOf_4 n9 x1 x2 (x3 + 1) I447 L448 Q) ∧ (¬ r449 = 0 → vc_X3_slipsOf_4 n9 x1 (x2 + 1) (x3 + 1) I447 L448 Q)))
def vc_X3_slipsOf_0 (x1 : Int32) (I : mm_I) (L : mm_L) (Q : Int32 → mm_I → mm_L → Prop) : Prop :=
  ∃ n, vc_X3_slipsOf_4 n x1 0 0 I L Q
set_option maxHeartbeats 4000000 in
set_option maxRecDepth 100000 in
theorem w_X3_slipsOf_4 {p : Program} {l : Launch} {e : Env} {s : State} {m : MethodId} {args : Array Value} {below : List Frame} {meth : Method} {c : Code} {G : mm_G} (hcx : mm_cx c_X3_slipsOf (some .int) 4 RX3 G p s m args meth c) (Q : Int32 → mm_I → mm_L → Prop) : ∀ (n9 : Nat) (x1 : Int32) (x2 : Int32) (x3 : Int32) (I : mm_I) (L : mm_L)  (H : Heap) (locs : List Loc) (ls : Array Slot), vc_X3_slipsOf_4 n9 x1 x2 x3 I L Q → mm_PW G I L H → mm_DW G I L → va_S G.2.2.2.1 s.heap H locs → lv_has ls 4 [(0, .ref (G.2.2.1 14)), (1, .int x1), (2, .int x2), (3, .int x3)] → W p l e (headSpec w_X3_slipsOf rm_X3_slipsOf).room s m args below meth c H locs 0 0 (MQ below (mm_qi G Q) args s 0 0 G.2.2.2.1) (F0 m 4 ls []) := by
  obtain ⟨hx, hb, hr, hlocks, hml, hown, hg, hK, hC⟩ := id hcx
  intro n9
  induction n9 with
  | zero => intro x1 x2 x3 I L H locs ls hv hP hD hS hl; exact hv.elim
  | succ n9 ih =>
    intro x1 x2 x3 I L H locs ls hv hP hD hS hl
    rw [vc_X3_slipsOf_4] at hv
    refine lv_iload_n hx hb d_X3_slipsOf_4 rfl (lv_at hl 3 rfl) ?_
    refine lv_bipush (v := 6) hx hb d_X3_slipsOf_5 (by decide) ?_
    refine lv_icmp_ge (tgt := 28) hx hb d_X3_slipsOf_7 (by decide) (fun hc => ?_) (fun hc => ?_)
    · have hv := hv.1 hc
      refine lv_iload_n hx hb d_X3_slipsOf_28 rfl (lv_at hl 2 rfl) ?_
      exact W.iret (v := x2) hx hb hr (fun t ht hW => ⟨⟨x2, (I, L), rfl, hv, mm_mv ht hP⟩, hS.F ht⟩) hS.2.2 d_X3_slipsOf_29
    · have hv := hv.2 hc
      refine lv_aload_n hx hb d_X3_slipsOf_10 rfl (lv_at hl 0 rfl) ?_
      refine lv_iload_n hx hb d_X3_slipsOf_11 rfl (lv_at hl 1 rfl) ?_
      refine lv_iload_n hx hb d_X3_slipsOf_12 rfl (lv_at hl 3 rfl) ?_
      refine va_calli (va_runV (As := [.int x1, .int x3]) (rest := []) ⟨hx, hb, hml, hown, hg⟩ (m_X3_hasSlip l G x1 x3 I L _  hv) (cwV 2 hg (mm_gV k_190 k_181 k_182 k_139 kc_X3_hasSlip) rfl rfl rfl (by decide +kernel) ⟨Nat.le_of_ble_eq_true rfl, Nat.le_of_ble_eq_true rfl⟩) ⟨mm_blind, mm_recv hK hP (t := 14) (by decide) rfl rfl, fun U hU hW => mm_call hP hK hD hC hU hS hW⟩ rfl rfl hl.1 rfl (lv_room (Nat.le_of_ble_eq_true rfl)) d_X3_slipsOf_13 ⟨Nat.zero_le _, Nat.zero_le _⟩) hS (fun q _ h => h) (fun q h => h) (fun r449 u t H locs ht hvm hv hP hz1 hk1 hS => ?_)
      obtain ⟨I447, L448⟩ := u
      dsimp only at hv hP
      rw [ht] at hP
      have hD : mm_DW G I447 L448 := mm_D_any hD
      refine lv_if_eq (tgt := 22) hx hb d_X3_slipsOf_16 (by decide) (fun hc => ?_) (fun hc => ?_)
      · have hv := hv.1 hc
        refine lv_iinc (v := (x3 + 1)) (lv' := [(3, .int (x3 + 1)), (0, .ref (G.2.2.1 14)), (1, .int x1), (2, .int x2)]) hx hb d_X3_slipsOf_22 hl (k := 3) rfl (by rfl) (by decide) rfl (fun ls hl => ?_)
        refine lv_goto (tgt := 4) hx hb d_X3_slipsOf_25 (by decide) ?_
        exact ih x1 x2 (x3 + 1) I447 L448  H locs ls hv hP hD hS (lv_sub hl [1, 2, 3, 0] rfl)
      · have hv := hv.2 hc
        refine lv_iinc (v := (x2 + 1)) (lv' := [(2, .int (x2 + 1)), (0, .ref (G.2.2.1 14)), (1, .int x1), (3, .int x3)]) hx hb d_X3_slipsOf_19 hl (k := 2) rfl (by rfl) (by decide) rfl (fun ls hl => ?_)
        refine lv_iinc (v := (x3 + 1)) (lv' := [(3, .int (x3 + 1)), (2, .int (x2 + 1)), (0, .ref (G.2.2.1 14)), (1, .int x1)]) hx hb d_X3_slipsOf_22 hl (k := 3) rfl (by rfl) (by decide) rfl (fun ls hl => ?_)
        refine lv_goto (tgt := 4) hx hb d_X3_slipsOf_25 (by decide) ?_
        exact ih x1 (x2 + 1) (x3 + 1) I447 L448  H locs ls hv hP hD hS (lv_sub hl [2, 3, 1, 0] rfl)
set_option maxHeartbeats 4000000 in
set_option maxRecDepth 100000 in
theorem w_X3_slipsOf_0 {p : Program} {l : Launch} {e : Env} {s : State} {m : MethodId} {args : Array Value} {below : List Frame} {meth : Method} {c : Code} {G : mm_G} (hcx : mm_cx c_X3_slipsOf (some .int) 4 RX3 G p s m args meth c) (x1 : Int32) (I : mm_I) (L : mm_L) (Q : Int32 → mm_I → mm_L → Prop)  (hv : vc_X3_slipsOf_0 x1 I L Q) {H : Heap} {locs : List Loc} (hP : mm_PW G I L H) (hD : mm_DW G I L) (hS : va_S G.2.2.2.1 s.heap H locs) {ls : Array Slot} (hl : lv_has ls 4 [(0, .ref (G.2.2.1 14)), (1, .int x1)]) : W p l e (headSpec w_X3_slipsOf rm_X3_slipsOf).room s m args below meth c H locs 0 0 (MQ below (mm_qi G Q) args s 0 0 G.2.2.2.1) (F0 m 0 ls []) := by
  obtain ⟨hx, hb, hr, hlocks, hml, hown, hg, hK, hC⟩ := id hcx
  unfold vc_X3_slipsOf_0 at hv
  refine lv_iconst (v := 0) hx hb d_X3_slipsOf_0 (by decide) ?_
  refine lv_istore_n (lv' := [(2, .int 0), (0, .ref (G.2.2.1 14)), (1, .int x1)]) hx hb d_X3_slipsOf_1 rfl hl (by decide) rfl (fun ls hl => ?_)
  refine lv_iconst (v := 0) hx hb d_X3_slipsOf_2 (by decide) ?_
  refine lv_istore_n (lv' := [(3, .int 0), (2, .int 0), (0, .ref (G.2.2.1 14)), (1, .int x1)]) hx hb d_X3_slipsOf_3 rfl hl (by decide) rfl (fun ls hl => ?_)
  obtain ⟨n, hv⟩ := hv
  exact w_X3_slipsOf_4 hcx Q n x1 0 0 I L  H locs ls hv hP hD hS (lv_sub hl [2, 3, 1, 0] rfl)
abbrev vc_X3_slipsOf (x1 : Int32) (I : mm_I) (L : mm_L) (Q : Int32 → mm_I → mm_L → Prop) : Prop := vc_X3_slipsOf_0 x1 I L Q
set_option maxHeartbeats 4000000 in
set_option maxRecDepth 100000 in
theorem m_X3_slipsOf (l : Launch) (G : mm_G) (x1 : Int32) (I : mm_I) (L : mm_L) (Q : Int32 → mm_I → mm_L → Prop)  (hv : vc_X3_slipsOf x1 I L Q) : Met l y_X3_slipsOf w_X3_slipsOf rm_X3_slipsOf (mm_pre G [.ref (G.2.2.1 14), .int x1] I L) (mm_qi G Q) 0 0 G.2.2.2.1 := by
  refine Met.ofW (cc := c_X3_slipsOf) (maxL := 4) (ret := (some .int)) (by decide) rfl ?_
  intro p e s m args below meth c s₁ B hml hw
  obtain ⟨rfl, hP, hK, hD, hC⟩ := hw
  have hts := atoms_spec (ws := w_X3_slipsOf) B.pre
  have hown : s.vm.findClass RX3 = some m.cls := findClass_of_methodNamed B.named
  have hl := lv_entry ([.ref (G.2.2.1 14), .int x1]) (n := 4) (Nat.le_of_ble_eq_true rfl)
  rw [lg_entry_eq]
  generalize (lg_sl ([.ref (G.2.2.1 14), .int x1]) ++ List.replicate (4 - (lg_sl ([.ref (G.2.2.1 14), .int x1])).length) Slot.unset).toArray = ls at hl ⊢
  have hl : lv_has ls 4 [(0, .ref (G.2.2.1 14)), (1, .int x1)] := hl
  exact w_X3_slipsOf_0 ⟨B.exec, B.bytes, B.returns, B.notSynchronized, hml, hown, fun w h => hts w (List.mem_cons_of_mem _ h), hK, hC⟩ x1 I L Q  hv hP hD va_S.rf hl
abbrev rm_X6_again : Room := { frames := 7, cells := 0, slots := 0, locals := 166 }
def vc_X6_again_0 (x1 : Int32) (I : mm_I) (L : mm_L) (Q : Int32 → mm_I → mm_L → Prop) : Prop :=
  vc_X3_stands x1 I L (fun r452 I450 L451 => (r452 = 0 → Q (-1) I450 L451) ∧ (¬ r452 = 0 → (x1 = ((I450 14 3) - 1) → vc_X6_unpayAll x1 I450 L451 (fun I453 L454 => vc_X6_payAll x1 I453 L454 (fun I456 L457 => vc_X3_slipsOf x1 I456 L457 (fun r461 I459 L460 => Q r461 I459 L460)))) ∧ (¬ x1 = ((I450 14 3) - 1) → Q (-1) I450 L451)))
set_option maxHeartbeats 4000000 in
set_option maxRecDepth 100000 in
theorem w_X6_again_0 {p : Program} {l : Launch} {e : Env} {s : State} {m : MethodId} {args : Array Value} {below : List Frame} {meth : Method} {c : Code} {G : mm_G} (hcx : mm_cx c_X6_again (some .int) 2 RX6 G p s m args meth c) (x1 : Int32) (I : mm_I) (L : mm_L) (Q : Int32 → mm_I → mm_L → Prop)  (hv : vc_X6_again_0 x1 I L Q) {H : Heap} {locs : List Loc} (hP : mm_PW G I L H) (hD : mm_DW G I L) (hS : va_S G.2.2.2.1 s.heap H locs) {ls : Array Slot} (hl : lv_has ls 2 [(0, .ref (G.2.2.1 0)), (1, .int x1)]) : W p l e (headSpec w_X6_again rm_X6_again).room s m args below meth c H locs 0 0 (MQ below (mm_qi G Q) args s 0 0 G.2.2.2.1) (F0 m 0 ls []) := by
  obtain ⟨hx, hb, hr, hlocks, hml, hown, hg, hK, hC⟩ := id hcx
  unfold vc_X6_again_0 at hv
  refine lv_aload_n hx hb d_X6_again_0 rfl (lv_at hl 0 rfl) ?_
  refine mm_gr (D := G.1) (C := RX6) (T := TX6) (N0 := 3) (r := 14) hx hb hg in_X6 hown hK hP (t := 0) (by decide) rfl rfl 2 (by decide) (hg _ k_152) (fun _ h9 => h9) rfl d_X6_again_1 ?_
  refine lv_iload_n hx hb d_X6_again_4 rfl (lv_at hl 1 rfl) ?_
  refine va_calli (va_runV (As := [.int x1]) (rest := []) ⟨hx, hb, hml, hown, hg⟩ (m_X3_stands l G x1 I L _  hv) (cwV 1 hg (mm_gV k_187 k_188 k_189 k_139 kc_X3_stands) rfl rfl rfl (by decide +kernel) ⟨Nat.le_of_ble_eq_true rfl, Nat.le_of_ble_eq_true rfl⟩) ⟨mm_blind, mm_recv hK hP (t := 14) (by decide) rfl rfl, fun U hU hW => mm_call hP hK hD hC hU hS hW⟩ rfl rfl hl.1 rfl (lv_room (Nat.le_of_ble_eq_true rfl)) d_X6_again_5 ⟨Nat.zero_le _, Nat.zero_le _⟩) hS (fun q _ h => h) (fun q h => h) (fun r452 u t H locs ht hvm hv hP hz1 hk1 hS => ?_)
  obtain ⟨I450, L451⟩ := u
  dsimp only at hv hP
  rw [ht] at hP
  have hD : mm_DW G I450 L451 := mm_D_any hD
  refine lv_if_eq (tgt := 24) hx hb d_X6_again_8 (by decide) (fun hc => ?_) (fun hc => ?_)
  · have hv := hv.1 hc
    refine lv_iconst (v := (-1)) hx hb d_X6_again_24 (by decide) ?_
    exact W.iret (v := (-1)) hx hb hr (fun t ht hW => ⟨⟨(-1), (I450, L451), rfl, hv, mm_mv ht hP⟩, hS.F ht⟩) hS.2.2 d_X6_again_25
  · have hv := hv.2 hc
    refine lv_iload_n hx hb d_X6_again_11 rfl (lv_at hl 1 rfl) ?_
    refine lv_aload_n hx hb d_X6_again_12 rfl (lv_at hl 0 rfl) ?_
    refine mm_gr (D := G.1) (C := RX6) (T := TX6) (N0 := 3) (r := 14) hx hb hg in_X6 hown hK hP (t := 0) (by decide) rfl rfl 2 (by decide) (hg _ k_152) (fun _ h9 => h9) rfl d_X6_again_13 ?_
    refine mm_gi (D := G.1) (C := RX3) (T := TX3) (N0 := 4) hx hb hg in_X3 hown hK hP (t := 14) (by decide) rfl rfl 3 (by decide) (hg _ k_168) (fun _ h9 => h9) rfl d_X6_again_16 ?_
    refine lv_iconst (v := 1) hx hb d_X6_again_19 (by decide) ?_
    refine lv_isub hx hb d_X6_again_20 ?_
    refine lv_icmp_eq (tgt := 26) hx hb d_X6_again_21 (by decide) (fun hc => ?_) (fun hc => ?_)
    · have hv := hv.1 hc
      refine lv_aload_n hx hb d_X6_again_26 rfl (lv_at hl 0 rfl) ?_
      refine lv_iload_n hx hb d_X6_again_27 rfl (lv_at hl 1 rfl) ?_
      refine va_callv (va_runV (As := [.int x1]) (rest := []) ⟨hx, hb, hml, hown, hg⟩ (m_X6_unpayAll l G x1 I450 L451 _  hv) (cwV 1 hg (mm_gV k_184 k_185 k_186 k_1 kc_X6_unpayAll) rfl rfl rfl (by decide +kernel) ⟨Nat.le_of_ble_eq_true rfl, Nat.le_of_ble_eq_true rfl⟩) ⟨mm_blind, mm_recv hK hP (t := 0) (by decide) rfl rfl, fun U hU hW => mm_call hP hK hD hC hU hS hW⟩ rfl rfl hl.1 rfl (lv_room (Nat.le_of_ble_eq_true rfl)) d_X6_again_28 ⟨Nat.zero_le _, Nat.zero_le _⟩) hS (fun q _ h => h) (fun q h => h) (fun u t H locs ht hvm hv hP hz1 hk1 hS => ?_)
      obtain ⟨I453, L454⟩ := u
      dsimp only at hv hP
      rw [ht] at hP
      have hD : mm_DW G I453 L454 := mm_D_any hD
      refine lv_aload_n hx hb d_X6_again_31 rfl (lv_at hl 0 rfl) ?_
      refine lv_iload_n hx hb d_X6_again_32 rfl (lv_at hl 1 rfl) ?_
      refine va_callv (va_runV (As := [.int x1]) (rest := []) ⟨hx, hb, hml, hown, hg⟩ (m_X6_payAll l G x1 I453 L454 _  hv) (cwV 1 hg (mm_gV k_169 k_170 k_171 k_1 kc_X6_payAll) rfl rfl rfl (by decide +kernel) ⟨Nat.le_of_ble_eq_true rfl, Nat.le_of_ble_eq_true rfl⟩) ⟨mm_blind, mm_recv hK hP (t := 0) (by decide) rfl rfl, fun U hU hW => mm_call hP hK hD hC hU hS hW⟩ rfl rfl hl.1 rfl (lv_room (Nat.le_of_ble_eq_true rfl)) d_X6_again_33 ⟨Nat.zero_le _, Nat.zero_le _⟩) hS (fun q _ h => h) (fun q h => h) (fun u t H locs ht hvm hv hP hz1 hk1 hS => ?_)
      obtain ⟨I456, L457⟩ := u
      dsimp only at hv hP
      rw [ht] at hP
      have hD : mm_DW G I456 L457 := mm_D_any hD
      refine lv_aload_n hx hb d_X6_again_36 rfl (lv_at hl 0 rfl) ?_
      refine mm_gr (D := G.1) (C := RX6) (T := TX6) (N0 := 3) (r := 14) hx hb hg in_X6 hown hK hP (t := 0) (by decide) rfl rfl 2 (by decide) (hg _ k_152) (fun _ h9 => h9) rfl d_X6_again_37 ?_
      refine lv_iload_n hx hb d_X6_again_40 rfl (lv_at hl 1 rfl) ?_
      refine va_calli (va_runV (As := [.int x1]) (rest := []) ⟨hx, hb, hml, hown, hg⟩ (m_X3_slipsOf l G x1 I456 L457 _  hv) (cwV 1 hg (mm_gV k_191 k_192 k_193 k_139 kc_X3_slipsOf) rfl rfl rfl (by decide +kernel) ⟨Nat.le_of_ble_eq_true rfl, Nat.le_of_ble_eq_true rfl⟩) ⟨mm_blind, mm_recv hK hP (t := 14) (by decide) rfl rfl, fun U hU hW => mm_call hP hK hD hC hU hS hW⟩ rfl rfl hl.1 rfl (lv_room (Nat.le_of_ble_eq_true rfl)) d_X6_again_41 ⟨Nat.zero_le _, Nat.zero_le _⟩) hS (fun q _ h => h) (fun q h => h) (fun r461 u t H locs ht hvm hv hP hz1 hk1 hS => ?_)
      obtain ⟨I459, L460⟩ := u
      dsimp only at hv hP
      rw [ht] at hP
      have hD : mm_DW G I459 L460 := mm_D_any hD
      exact W.iret (v := r461) hx hb hr (fun t ht hW => ⟨⟨r461, (I459, L460), rfl, hv, mm_mv ht hP⟩, hS.F ht⟩) hS.2.2 d_X6_again_44
    · have hv := hv.2 hc
      refine lv_iconst (v := (-1)) hx hb d_X6_again_24 (by decide) ?_
      exact W.iret (v := (-1)) hx hb hr (fun t ht hW => ⟨⟨(-1), (I450, L451), rfl, hv, mm_mv ht hP⟩, hS.F ht⟩) hS.2.2 d_X6_again_25
abbrev vc_X6_again (x1 : Int32) (I : mm_I) (L : mm_L) (Q : Int32 → mm_I → mm_L → Prop) : Prop := vc_X6_again_0 x1 I L Q
set_option maxHeartbeats 4000000 in
set_option maxRecDepth 100000 in
theorem m_X6_again (l : Launch) (G : mm_G) (x1 : Int32) (I : mm_I) (L : mm_L) (Q : Int32 → mm_I → mm_L → Prop)  (hv : vc_X6_again x1 I L Q) : Met l y_X6_again w_X6_again rm_X6_again (mm_pre G [.ref (G.2.2.1 0), .int x1] I L) (mm_qi G Q) 0 0 G.2.2.2.1 := by
  refine Met.ofW (cc := c_X6_again) (maxL := 2) (ret := (some .int)) (by decide) rfl ?_
  intro p e s m args below meth c s₁ B hml hw
  obtain ⟨rfl, hP, hK, hD, hC⟩ := hw
  have hts := atoms_spec (ws := w_X6_again) B.pre
  have hown : s.vm.findClass RX6 = some m.cls := findClass_of_methodNamed B.named
  have hl := lv_entry ([.ref (G.2.2.1 0), .int x1]) (n := 2) (Nat.le_of_ble_eq_true rfl)
  rw [lg_entry_eq]
  generalize (lg_sl ([.ref (G.2.2.1 0), .int x1]) ++ List.replicate (2 - (lg_sl ([.ref (G.2.2.1 0), .int x1])).length) Slot.unset).toArray = ls at hl ⊢
  have hl : lv_has ls 2 [(0, .ref (G.2.2.1 0)), (1, .int x1)] := hl
  exact w_X6_again_0 ⟨B.exec, B.bytes, B.returns, B.notSynchronized, hml, hown, fun w h => hts w (List.mem_cons_of_mem _ h), hK, hC⟩ x1 I L Q  hv hP hD va_S.rf hl
abbrev rm_X6_slip : Room := { frames := 2, cells := 0, slots := 0, locals := 44 }
def vc_X6_slip_0 (x1 : Int32) (x2 : Int32) (x3 : Int32) (I : mm_I) (L : mm_L) (Q : Int64 → mm_I → mm_L → Prop) : Prop :=
  vc_X3_has x1 I L (fun r464 I462 L463 => (r464 = 0 → Q 1000000000000 I462 L463) ∧ (¬ r464 = 0 → vc_X6_within x2 6 I462 L463 (fun r467 I465 L466 => (r467 = 0 → Q 1000000000000 I465 L466) ∧ (¬ r467 = 0 → vc_X6_within x3 3 I465 L466 (fun r470 I468 L469 => (¬ r470 = 0 → vc_X3_amountOf x1 x2 x3 I468 L469 (fun r473 I471 L472 => Q r473 I471 L472)) ∧ (r470 = 0 → Q 1000000000000 I468 L469))))))
set_option maxHeartbeats 4000000 in
set_option maxRecDepth 100000 in
theorem w_X6_slip_0 {p : Program} {l : Launch} {e : Env} {s : State} {m : MethodId} {args : Array Value} {below : List Frame} {meth : Method} {c : Code} {G : mm_G} (hcx : mm_cx c_X6_slip (some .long) 4 RX6 G p s m args meth c) (x1 : Int32) (x2 : Int32) (x3 : Int32) (I : mm_I) (L : mm_L) (Q : Int64 → mm_I → mm_L → Prop)  (hv : vc_X6_slip_0 x1 x2 x3 I L Q) {H : Heap} {locs : List Loc} (hP : mm_PW G I L H) (hD : mm_DW G I L) (hS : va_S G.2.2.2.1 s.heap H locs) {ls : Array Slot} (hl : lv_has ls 4 [(0, .ref (G.2.2.1 0)), (1, .int x1), (2, .int x2), (3, .int x3)]) : W p l e (headSpec w_X6_slip rm_X6_slip).room s m args below meth c H locs 0 0 (MQ below (mm_ql G Q) args s 0 0 G.2.2.2.1) (F0 m 0 ls []) := by
  obtain ⟨hx, hb, hr, hlocks, hml, hown, hg, hK, hC⟩ := id hcx
  unfold vc_X6_slip_0 at hv
  refine lv_aload_n hx hb d_X6_slip_0 rfl (lv_at hl 0 rfl) ?_
  refine mm_gr (D := G.1) (C := RX6) (T := TX6) (N0 := 3) (r := 14) hx hb hg in_X6 hown hK hP (t := 0) (by decide) rfl rfl 2 (by decide) (hg _ k_152) (fun _ h9 => h9) rfl d_X6_slip_1 ?_
  refine lv_iload_n hx hb d_X6_slip_4 rfl (lv_at hl 1 rfl) ?_
  refine va_calli (va_runV (As := [.int x1]) (rest := []) ⟨hx, hb, hml, hown, hg⟩ (m_X3_has l G x1 I L _  hv) (cwV 1 hg (mm_gV k_194 k_175 k_176 k_139 kc_X3_has) rfl rfl rfl (by decide +kernel) ⟨Nat.le_of_ble_eq_true rfl, Nat.le_of_ble_eq_true rfl⟩) ⟨mm_blind, mm_recv hK hP (t := 14) (by decide) rfl rfl, fun U hU hW => mm_call hP hK hD hC hU hS hW⟩ rfl rfl hl.1 rfl (lv_room (Nat.le_of_ble_eq_true rfl)) d_X6_slip_5 ⟨Nat.zero_le _, Nat.zero_le _⟩) hS (fun q _ h => h) (fun q h => h) (fun r464 u t H locs ht hvm hv hP hz1 hk1 hS => ?_)
  obtain ⟨I462, L463⟩ := u
  dsimp only at hv hP
  rw [ht] at hP
  have hD : mm_DW G I462 L463 := mm_D_any hD
  refine lv_if_eq (tgt := 28) hx hb d_X6_slip_8 (by decide) (fun hc => ?_) (fun hc => ?_)
  · have hv := hv.1 hc
    refine lv_ldc2 (v := 1000000000000) hx hb hown (hg _ k_128) d_X6_slip_28 ?_
    exact W.lret (v := 1000000000000) hx hb hr (fun t ht hW => ⟨⟨1000000000000, (I462, L463), rfl, hv, mm_mv ht hP⟩, hS.F ht⟩) hS.2.2 d_X6_slip_31
  · have hv := hv.2 hc
    refine lv_iload_n hx hb d_X6_slip_11 rfl (lv_at hl 2 rfl) ?_
    refine lv_bipush (v := 6) hx hb d_X6_slip_12 (by decide) ?_
    refine va_calli (va_runS (As := [.int x2, .int 6]) (rest := []) ⟨hx, hb, hml, hown, hg⟩ (m_X6_within l G x2 6 I462 L463 _  hv) (va_cwS 2 hg (mm_gS k_42 k_2 k_1 kc_X6_within) rfl rfl rfl (by decide +kernel) ⟨Nat.le_of_ble_eq_true rfl, Nat.le_of_ble_eq_true rfl⟩) ⟨mm_blind, fun U hU hW => mm_call hP hK hD hC hU hS hW⟩ rfl rfl hl.1 rfl (lv_room (Nat.le_of_ble_eq_true rfl)) d_X6_slip_14 ⟨Nat.zero_le _, Nat.zero_le _⟩) hS (fun q _ h => h) (fun q h => h) (fun r467 u t H locs ht hvm hv hP hz1 hk1 hS => ?_)
    obtain ⟨I465, L466⟩ := u
    dsimp only at hv hP
    rw [ht] at hP
    have hD : mm_DW G I465 L466 := mm_D_any hD
    refine lv_if_eq (tgt := 28) hx hb d_X6_slip_17 (by decide) (fun hc => ?_) (fun hc => ?_)
    · have hv := hv.1 hc
      refine lv_ldc2 (v := 1000000000000) hx hb hown (hg _ k_128) d_X6_slip_28 ?_
      exact W.lret (v := 1000000000000) hx hb hr (fun t ht hW => ⟨⟨1000000000000, (I465, L466), rfl, hv, mm_mv ht hP⟩, hS.F ht⟩) hS.2.2 d_X6_slip_31
    · have hv := hv.2 hc
      refine lv_iload_n hx hb d_X6_slip_20 rfl (lv_at hl 3 rfl) ?_
      refine lv_iconst (v := 3) hx hb d_X6_slip_21 (by decide) ?_
      refine va_calli (va_runS (As := [.int x3, .int 3]) (rest := []) ⟨hx, hb, hml, hown, hg⟩ (m_X6_within l G x3 3 I465 L466 _  hv) (va_cwS 2 hg (mm_gS k_42 k_2 k_1 kc_X6_within) rfl rfl rfl (by decide +kernel) ⟨Nat.le_of_ble_eq_true rfl, Nat.le_of_ble_eq_true rfl⟩) ⟨mm_blind, fun U hU hW => mm_call hP hK hD hC hU hS hW⟩ rfl rfl hl.1 rfl (lv_room (Nat.le_of_ble_eq_true rfl)) d_X6_slip_22 ⟨Nat.zero_le _, Nat.zero_le _⟩) hS (fun q _ h => h) (fun q h => h) (fun r470 u t H locs ht hvm hv hP hz1 hk1 hS => ?_)
      obtain ⟨I468, L469⟩ := u
      dsimp only at hv hP
      rw [ht] at hP
      have hD : mm_DW G I468 L469 := mm_D_any hD
      refine lv_if_ne (tgt := 32) hx hb d_X6_slip_25 (by decide) (fun hc => ?_) (fun hc => ?_)
      · have hv := hv.1 hc
        refine lv_aload_n hx hb d_X6_slip_32 rfl (lv_at hl 0 rfl) ?_
        refine mm_gr (D := G.1) (C := RX6) (T := TX6) (N0 := 3) (r := 14) hx hb hg in_X6 hown hK hP (t := 0) (by decide) rfl rfl 2 (by decide) (hg _ k_152) (fun _ h9 => h9) rfl d_X6_slip_33 ?_
        refine lv_iload_n hx hb d_X6_slip_36 rfl (lv_at hl 1 rfl) ?_
        refine lv_iload_n hx hb d_X6_slip_37 rfl (lv_at hl 2 rfl) ?_
        refine lv_iload_n hx hb d_X6_slip_38 rfl (lv_at hl 3 rfl) ?_
        refine va_calll (va_runV (As := [.int x1, .int x2, .int x3]) (rest := []) ⟨hx, hb, hml, hown, hg⟩ (m_X3_amountOf l G x1 x2 x3 I468 L469 _  hv) (cwV 3 hg (mm_gV k_177 k_178 k_179 k_139 kc_X3_amountOf) rfl rfl rfl (by decide +kernel) ⟨Nat.le_of_ble_eq_true rfl, Nat.le_of_ble_eq_true rfl⟩) ⟨mm_blind, mm_recv hK hP (t := 14) (by decide) rfl rfl, fun U hU hW => mm_call hP hK hD hC hU hS hW⟩ rfl rfl hl.1 rfl (lv_room (Nat.le_of_ble_eq_true rfl)) d_X6_slip_39 ⟨Nat.zero_le _, Nat.zero_le _⟩) hS (fun q _ h => h) (fun q h => h) (fun r473 u t H locs ht hvm hv hP hz1 hk1 hS => ?_)
        obtain ⟨I471, L472⟩ := u
        dsimp only at hv hP
        rw [ht] at hP
        have hD : mm_DW G I471 L472 := mm_D_any hD
        exact W.lret (v := r473) hx hb hr (fun t ht hW => ⟨⟨r473, (I471, L472), rfl, hv, mm_mv ht hP⟩, hS.F ht⟩) hS.2.2 d_X6_slip_42
      · have hv := hv.2 hc
        refine lv_ldc2 (v := 1000000000000) hx hb hown (hg _ k_128) d_X6_slip_28 ?_
        exact W.lret (v := 1000000000000) hx hb hr (fun t ht hW => ⟨⟨1000000000000, (I468, L469), rfl, hv, mm_mv ht hP⟩, hS.F ht⟩) hS.2.2 d_X6_slip_31
abbrev vc_X6_slip (x1 : Int32) (x2 : Int32) (x3 : Int32) (I : mm_I) (L : mm_L) (Q : Int64 → mm_I → mm_L → Prop) : Prop := vc_X6_slip_0 x1 x2 x3 I L Q
set_option maxHeartbeats 4000000 in
set_option maxRecDepth 100000 in
theorem m_X6_slip (l : Launch) (G : mm_G) (x1 : Int32) (x2 : Int32) (x3 : Int32) (I : mm_I) (L : mm_L) (Q : Int64 → mm_I → mm_L → Prop)  (hv : vc_X6_slip x1 x2 x3 I L Q) : Met l y_X6_slip w_X6_slip rm_X6_slip (mm_pre G [.ref (G.2.2.1 0), .int x1, .int x2, .int x3] I L) (mm_ql G Q) 0 0 G.2.2.2.1 := by
  refine Met.ofW (cc := c_X6_slip) (maxL := 4) (ret := (some .long)) (by decide) rfl ?_
  intro p e s m args below meth c s₁ B hml hw
  obtain ⟨rfl, hP, hK, hD, hC⟩ := hw
  have hts := atoms_spec (ws := w_X6_slip) B.pre
  have hown : s.vm.findClass RX6 = some m.cls := findClass_of_methodNamed B.named
  have hl := lv_entry ([.ref (G.2.2.1 0), .int x1, .int x2, .int x3]) (n := 4) (Nat.le_of_ble_eq_true rfl)
  rw [lg_entry_eq]
  generalize (lg_sl ([.ref (G.2.2.1 0), .int x1, .int x2, .int x3]) ++ List.replicate (4 - (lg_sl ([.ref (G.2.2.1 0), .int x1, .int x2, .int x3])).length) Slot.unset).toArray = ls at hl ⊢
  have hl : lv_has ls 4 [(0, .ref (G.2.2.1 0)), (1, .int x1), (2, .int x2), (3, .int x3)] := hl
  exact w_X6_slip_0 ⟨B.exec, B.bytes, B.returns, B.notSynchronized, hml, hown, fun w h => hts w (List.mem_cons_of_mem _ h), hK, hC⟩ x1 x2 x3 I L Q  hv hP hD va_S.rf hl
abbrev rm_X6_held : Room := { frames := 2, cells := 0, slots := 0, locals := 42 }
def vc_X6_held_0 (x1 : Int32) (x2 : Int32) (I : mm_I) (L : mm_L) (Q : Int32 → mm_I → mm_L → Prop) : Prop :=
  vc_X3_has x1 I L (fun r476 I474 L475 => (r476 = 0 → Q (-1) I474 L475) ∧ (¬ r476 = 0 → vc_X6_within x2 6 I474 L475 (fun r479 I477 L478 => (¬ r479 = 0 → vp_in ((x1 * 6) + x2) 96 ∧ Q (I477 16 (((x1 * 6) + x2)).toNatClampNeg) I477 L478) ∧ (r479 = 0 → Q (-1) I477 L478))))
set_option maxHeartbeats 4000000 in
set_option maxRecDepth 100000 in
theorem w_X6_held_0 {p : Program} {l : Launch} {e : Env} {s : State} {m : MethodId} {args : Array Value} {below : List Frame} {meth : Method} {c : Code} {G : mm_G} (hcx : mm_cx c_X6_held (some .int) 3 RX6 G p s m args meth c) (x1 : Int32) (x2 : Int32) (I : mm_I) (L : mm_L) (Q : Int32 → mm_I → mm_L → Prop)  (hv : vc_X6_held_0 x1 x2 I L Q) {H : Heap} {locs : List Loc} (hP : mm_PW G I L H) (hD : mm_DW G I L) (hS : va_S G.2.2.2.1 s.heap H locs) {ls : Array Slot} (hl : lv_has ls 3 [(0, .ref (G.2.2.1 0)), (1, .int x1), (2, .int x2)]) : W p l e (headSpec w_X6_held rm_X6_held).room s m args below meth c H locs 0 0 (MQ below (mm_qi G Q) args s 0 0 G.2.2.2.1) (F0 m 0 ls []) := by
  obtain ⟨hx, hb, hr, hlocks, hml, hown, hg, hK, hC⟩ := id hcx
  unfold vc_X6_held_0 at hv
  refine lv_aload_n hx hb d_X6_held_0 rfl (lv_at hl 0 rfl) ?_
  refine mm_gr (D := G.1) (C := RX6) (T := TX6) (N0 := 3) (r := 14) hx hb hg in_X6 hown hK hP (t := 0) (by decide) rfl rfl 2 (by decide) (hg _ k_152) (fun _ h9 => h9) rfl d_X6_held_1 ?_
  refine lv_iload_n hx hb d_X6_held_4 rfl (lv_at hl 1 rfl) ?_
  refine va_calli (va_runV (As := [.int x1]) (rest := []) ⟨hx, hb, hml, hown, hg⟩ (m_X3_has l G x1 I L _  hv) (cwV 1 hg (mm_gV k_194 k_175 k_176 k_139 kc_X3_has) rfl rfl rfl (by decide +kernel) ⟨Nat.le_of_ble_eq_true rfl, Nat.le_of_ble_eq_true rfl⟩) ⟨mm_blind, mm_recv hK hP (t := 14) (by decide) rfl rfl, fun U hU hW => mm_call hP hK hD hC hU hS hW⟩ rfl rfl hl.1 rfl (lv_room (Nat.le_of_ble_eq_true rfl)) d_X6_held_5 ⟨Nat.zero_le _, Nat.zero_le _⟩) hS (fun q _ h => h) (fun q h => h) (fun r476 u t H locs ht hvm hv hP hz1 hk1 hS => ?_)
  obtain ⟨I474, L475⟩ := u
  dsimp only at hv hP
  rw [ht] at hP
  have hD : mm_DW G I474 L475 := mm_D_any hD
  refine lv_if_eq (tgt := 20) hx hb d_X6_held_8 (by decide) (fun hc => ?_) (fun hc => ?_)
  · have hv := hv.1 hc
    refine lv_iconst (v := (-1)) hx hb d_X6_held_20 (by decide) ?_
    exact W.iret (v := (-1)) hx hb hr (fun t ht hW => ⟨⟨(-1), (I474, L475), rfl, hv, mm_mv ht hP⟩, hS.F ht⟩) hS.2.2 d_X6_held_21
  · have hv := hv.2 hc
    refine lv_iload_n hx hb d_X6_held_11 rfl (lv_at hl 2 rfl) ?_
    refine lv_bipush (v := 6) hx hb d_X6_held_12 (by decide) ?_
    refine va_calli (va_runS (As := [.int x2, .int 6]) (rest := []) ⟨hx, hb, hml, hown, hg⟩ (m_X6_within l G x2 6 I474 L475 _  hv) (va_cwS 2 hg (mm_gS k_42 k_2 k_1 kc_X6_within) rfl rfl rfl (by decide +kernel) ⟨Nat.le_of_ble_eq_true rfl, Nat.le_of_ble_eq_true rfl⟩) ⟨mm_blind, fun U hU hW => mm_call hP hK hD hC hU hS hW⟩ rfl rfl hl.1 rfl (lv_room (Nat.le_of_ble_eq_true rfl)) d_X6_held_14 ⟨Nat.zero_le _, Nat.zero_le _⟩) hS (fun q _ h => h) (fun q h => h) (fun r479 u t H locs ht hvm hv hP hz1 hk1 hS => ?_)
    obtain ⟨I477, L478⟩ := u
    dsimp only at hv hP
    rw [ht] at hP
    have hD : mm_DW G I477 L478 := mm_D_any hD
    refine lv_if_ne (tgt := 22) hx hb d_X6_held_17 (by decide) (fun hc => ?_) (fun hc => ?_)
    · have hv := hv.1 hc
      refine lv_aload_n hx hb d_X6_held_22 rfl (lv_at hl 0 rfl) ?_
      refine mm_gr (D := G.1) (C := RX6) (T := TX6) (N0 := 3) (r := 14) hx hb hg in_X6 hown hK hP (t := 0) (by decide) rfl rfl 2 (by decide) (hg _ k_152) (fun _ h9 => h9) rfl d_X6_held_23 ?_
      refine mm_gr (D := G.1) (C := RX3) (T := TX3) (N0 := 4) (r := 16) hx hb hg in_X3 hown hK hP (t := 14) (by decide) rfl rfl 1 (by decide) (hg _ k_195) (fun _ h9 => h9) rfl d_X6_held_26 ?_
      refine lv_iload_n hx hb d_X6_held_29 rfl (lv_at hl 1 rfl) ?_
      refine lv_bipush (v := 6) hx hb d_X6_held_30 (by decide) ?_
      refine lv_imul hx hb d_X6_held_32 ?_
      refine lv_iload_n hx hb d_X6_held_33 rfl (lv_at hl 2 rfl) ?_
      refine lv_iadd hx hb d_X6_held_34 ?_
      obtain ⟨h480, hv⟩ := hv
      refine mm_iald (D := G.1) hx hb hK hP (t := 16) (by decide) rfl rfl h480 d_X6_held_35 ?_
      exact W.iret (v := (I477 16 (((x1 * 6) + x2)).toNatClampNeg)) hx hb hr (fun t ht hW => ⟨⟨(I477 16 (((x1 * 6) + x2)).toNatClampNeg), (I477, L478), rfl, hv, mm_mv ht hP⟩, hS.F ht⟩) hS.2.2 d_X6_held_36
    · have hv := hv.2 hc
      refine lv_iconst (v := (-1)) hx hb d_X6_held_20 (by decide) ?_
      exact W.iret (v := (-1)) hx hb hr (fun t ht hW => ⟨⟨(-1), (I477, L478), rfl, hv, mm_mv ht hP⟩, hS.F ht⟩) hS.2.2 d_X6_held_21
abbrev vc_X6_held (x1 : Int32) (x2 : Int32) (I : mm_I) (L : mm_L) (Q : Int32 → mm_I → mm_L → Prop) : Prop := vc_X6_held_0 x1 x2 I L Q
set_option maxHeartbeats 4000000 in
set_option maxRecDepth 100000 in
theorem m_X6_held (l : Launch) (G : mm_G) (x1 : Int32) (x2 : Int32) (I : mm_I) (L : mm_L) (Q : Int32 → mm_I → mm_L → Prop)  (hv : vc_X6_held x1 x2 I L Q) : Met l y_X6_held w_X6_held rm_X6_held (mm_pre G [.ref (G.2.2.1 0), .int x1, .int x2] I L) (mm_qi G Q) 0 0 G.2.2.2.1 := by
  refine Met.ofW (cc := c_X6_held) (maxL := 3) (ret := (some .int)) (by decide) rfl ?_
  intro p e s m args below meth c s₁ B hml hw
  obtain ⟨rfl, hP, hK, hD, hC⟩ := hw
  have hts := atoms_spec (ws := w_X6_held) B.pre
  have hown : s.vm.findClass RX6 = some m.cls := findClass_of_methodNamed B.named
  have hl := lv_entry ([.ref (G.2.2.1 0), .int x1, .int x2]) (n := 3) (Nat.le_of_ble_eq_true rfl)
  rw [lg_entry_eq]
  generalize (lg_sl ([.ref (G.2.2.1 0), .int x1, .int x2]) ++ List.replicate (3 - (lg_sl ([.ref (G.2.2.1 0), .int x1, .int x2])).length) Slot.unset).toArray = ls at hl ⊢
  have hl : lv_has ls 3 [(0, .ref (G.2.2.1 0)), (1, .int x1), (2, .int x2)] := hl
  exact w_X6_held_0 ⟨B.exec, B.bytes, B.returns, B.notSynchronized, hml, hown, fun w h => hts w (List.mem_cons_of_mem _ h), hK, hC⟩ x1 x2 I L Q  hv hP hD va_S.rf hl
abbrev rm_X3_totalOfRun : Room := { frames := 2, cells := 0, slots := 0, locals := 44 }
def vc_X3_totalOfRun_5 : Nat → Int32 → Int32 → Int64 → Int32 → mm_I → mm_L → (Int64 → mm_I → mm_L → Prop) → Prop
  | 0, _, _, _, _, _, _, _ => False
  | n9 + 1, x1, x2, x3, x5, I, L, Q => (6 ≤ x5 → Q x3 I L) ∧ (¬ 6 ≤ x5 → vc_X3_hasSlip x1 x5 I L (fun r483 I481 L482 => (r483 = 0 → vc_X3_totalOfRun_5 n9 x1 x2 x3 (x5 + 1) I481 L482 Q) ∧ (¬ r483 = 0 → vc_X3_amountOf x1 x5 x2 I481 L482 (fun r486 I484 L485 => vc_X3_totalOfRun_5 n9 x1 x2 (x3 + r486) (x5 + 1) I484 L485 Q))))
def vc_X3_totalOfRun_0 (x1 : Int32) (x2 : Int32) (I : mm_I) (L : mm_L) (Q : Int64 → mm_I → mm_L → Prop) : Prop :=
  ∃ n, vc_X3_totalOfRun_5 n x1 x2 0 0 I L Q
set_option maxHeartbeats 4000000 in
set_option maxRecDepth 100000 in
theorem w_X3_totalOfRun_5 {p : Program} {l : Launch} {e : Env} {s : State} {m : MethodId} {args : Array Value} {below : List Frame} {meth : Method} {c : Code} {G : mm_G} (hcx : mm_cx c_X3_totalOfRun (some .long) 6 RX3 G p s m args meth c) (Q : Int64 → mm_I → mm_L → Prop) : ∀ (n9 : Nat) (x1 : Int32) (x2 : Int32) (x3 : Int64) (x5 : Int32) (I : mm_I) (L : mm_L)  (H : Heap) (locs : List Loc) (ls : Array Slot), vc_X3_totalOfRun_5 n9 x1 x2 x3 x5 I L Q → mm_PW G I L H → mm_DW G I L → va_S G.2.2.2.1 s.heap H locs → lv_has ls 6 [(0, .ref (G.2.2.1 14)), (1, .int x1), (2, .int x2), (3, .long x3), (5, .int x5)] → W p l e (headSpec w_X3_totalOfRun rm_X3_totalOfRun).room s m args below meth c H locs 0 0 (MQ below (mm_ql G Q) args s 0 0 G.2.2.2.1) (F0 m 5 ls []) := by
  obtain ⟨hx, hb, hr, hlocks, hml, hown, hg, hK, hC⟩ := id hcx
  intro n9
  induction n9 with
  | zero => intro x1 x2 x3 x5 I L H locs ls hv hP hD hS hl; exact hv.elim
  | succ n9 ih =>
    intro x1 x2 x3 x5 I L H locs ls hv hP hD hS hl
    rw [vc_X3_totalOfRun_5] at hv
    refine lv_iload hx hb d_X3_totalOfRun_5 (lv_at hl 4 rfl) ?_
    refine lv_bipush (v := 6) hx hb d_X3_totalOfRun_7 (by decide) ?_
    refine lv_icmp_ge (tgt := 39) hx hb d_X3_totalOfRun_9 (by decide) (fun hc => ?_) (fun hc => ?_)
    · have hv := hv.1 hc
      refine lv_lload_n hx hb d_X3_totalOfRun_39 rfl (lv_at hl 3 rfl) ?_
      exact W.lret (v := x3) hx hb hr (fun t ht hW => ⟨⟨x3, (I, L), rfl, hv, mm_mv ht hP⟩, hS.F ht⟩) hS.2.2 d_X3_totalOfRun_40
    · have hv := hv.2 hc
      refine lv_aload_n hx hb d_X3_totalOfRun_12 rfl (lv_at hl 0 rfl) ?_
      refine lv_iload_n hx hb d_X3_totalOfRun_13 rfl (lv_at hl 1 rfl) ?_
      refine lv_iload hx hb d_X3_totalOfRun_14 (lv_at hl 4 rfl) ?_
      refine va_calli (va_runV (As := [.int x1, .int x5]) (rest := []) ⟨hx, hb, hml, hown, hg⟩ (m_X3_hasSlip l G x1 x5 I L _  hv) (cwV 2 hg (mm_gV k_190 k_181 k_182 k_139 kc_X3_hasSlip) rfl rfl rfl (by decide +kernel) ⟨Nat.le_of_ble_eq_true rfl, Nat.le_of_ble_eq_true rfl⟩) ⟨mm_blind, mm_recv hK hP (t := 14) (by decide) rfl rfl, fun U hU hW => mm_call hP hK hD hC hU hS hW⟩ rfl rfl hl.1 rfl (lv_room (Nat.le_of_ble_eq_true rfl)) d_X3_totalOfRun_16 ⟨Nat.zero_le _, Nat.zero_le _⟩) hS (fun q _ h => h) (fun q h => h) (fun r483 u t H locs ht hvm hv hP hz1 hk1 hS => ?_)
      obtain ⟨I481, L482⟩ := u
      dsimp only at hv hP
      rw [ht] at hP
      have hD : mm_DW G I481 L482 := mm_D_any hD
      refine lv_if_eq (tgt := 33) hx hb d_X3_totalOfRun_19 (by decide) (fun hc => ?_) (fun hc => ?_)
      · have hv := hv.1 hc
        refine lv_iinc (v := (x5 + 1)) (lv' := [(5, .int (x5 + 1)), (0, .ref (G.2.2.1 14)), (1, .int x1), (2, .int x2), (3, .long x3)]) hx hb d_X3_totalOfRun_33 hl (k := 4) rfl (by rfl) (by decide) rfl (fun ls hl => ?_)
        refine lv_goto (tgt := 5) hx hb d_X3_totalOfRun_36 (by decide) ?_
        exact ih x1 x2 x3 (x5 + 1) I481 L482  H locs ls hv hP hD hS (lv_sub hl [1, 2, 3, 4, 0] rfl)
      · have hv := hv.2 hc
        refine lv_lload_n hx hb d_X3_totalOfRun_22 rfl (lv_at hl 3 rfl) ?_
        refine lv_aload_n hx hb d_X3_totalOfRun_23 rfl (lv_at hl 0 rfl) ?_
        refine lv_iload_n hx hb d_X3_totalOfRun_24 rfl (lv_at hl 1 rfl) ?_
        refine lv_iload hx hb d_X3_totalOfRun_25 (lv_at hl 4 rfl) ?_
        refine lv_iload_n hx hb d_X3_totalOfRun_27 rfl (lv_at hl 2 rfl) ?_
        refine va_calll (va_runV (As := [.int x1, .int x5, .int x2]) (rest := [.long x3]) ⟨hx, hb, hml, hown, hg⟩ (m_X3_amountOf l G x1 x5 x2 I481 L482 _  hv) (cwV 3 hg (mm_gV k_196 k_178 k_179 k_139 kc_X3_amountOf) rfl rfl rfl (by decide +kernel) ⟨Nat.le_of_ble_eq_true rfl, Nat.le_of_ble_eq_true rfl⟩) ⟨mm_blind, mm_recv hK hP (t := 14) (by decide) rfl rfl, fun U hU hW => mm_call hP hK hD hC hU hS hW⟩ rfl rfl hl.1 rfl (lv_room (Nat.le_of_ble_eq_true rfl)) d_X3_totalOfRun_28 ⟨Nat.zero_le _, Nat.zero_le _⟩) hS (fun q _ h => h) (fun q h => h) (fun r486 u t H locs ht hvm hv hP hz1 hk1 hS => ?_)
        obtain ⟨I484, L485⟩ := u
        dsimp only at hv hP
        rw [ht] at hP
        have hD : mm_DW G I484 L485 := mm_D_any hD
        refine lv_ladd hx hb d_X3_totalOfRun_31 ?_
        refine lv_lstore_n (lv' := [(3, .long (x3 + r486)), (0, .ref (G.2.2.1 14)), (1, .int x1), (2, .int x2), (5, .int x5)]) hx hb d_X3_totalOfRun_32 rfl hl (by decide) rfl (fun ls hl => ?_)
        refine lv_iinc (v := (x5 + 1)) (lv' := [(5, .int (x5 + 1)), (3, .long (x3 + r486)), (0, .ref (G.2.2.1 14)), (1, .int x1), (2, .int x2)]) hx hb d_X3_totalOfRun_33 hl (k := 4) rfl (by rfl) (by decide) rfl (fun ls hl => ?_)
        refine lv_goto (tgt := 5) hx hb d_X3_totalOfRun_36 (by decide) ?_
        exact ih x1 x2 (x3 + r486) (x5 + 1) I484 L485  H locs ls hv hP hD hS (lv_sub hl [2, 3, 4, 1, 0] rfl)
set_option maxHeartbeats 4000000 in
set_option maxRecDepth 100000 in
theorem w_X3_totalOfRun_0 {p : Program} {l : Launch} {e : Env} {s : State} {m : MethodId} {args : Array Value} {below : List Frame} {meth : Method} {c : Code} {G : mm_G} (hcx : mm_cx c_X3_totalOfRun (some .long) 6 RX3 G p s m args meth c) (x1 : Int32) (x2 : Int32) (I : mm_I) (L : mm_L) (Q : Int64 → mm_I → mm_L → Prop)  (hv : vc_X3_totalOfRun_0 x1 x2 I L Q) {H : Heap} {locs : List Loc} (hP : mm_PW G I L H) (hD : mm_DW G I L) (hS : va_S G.2.2.2.1 s.heap H locs) {ls : Array Slot} (hl : lv_has ls 6 [(0, .ref (G.2.2.1 14)), (1, .int x1), (2, .int x2)]) : W p l e (headSpec w_X3_totalOfRun rm_X3_totalOfRun).room s m args below meth c H locs 0 0 (MQ below (mm_ql G Q) args s 0 0 G.2.2.2.1) (F0 m 0 ls []) := by
  obtain ⟨hx, hb, hr, hlocks, hml, hown, hg, hK, hC⟩ := id hcx
  unfold vc_X3_totalOfRun_0 at hv
  refine lv_lconst (v := 0) hx hb d_X3_totalOfRun_0 (by decide) ?_
  refine lv_lstore_n (lv' := [(3, .long 0), (0, .ref (G.2.2.1 14)), (1, .int x1), (2, .int x2)]) hx hb d_X3_totalOfRun_1 rfl hl (by decide) rfl (fun ls hl => ?_)
  refine lv_iconst (v := 0) hx hb d_X3_totalOfRun_2 (by decide) ?_
  refine lv_istore (lv' := [(5, .int 0), (3, .long 0), (0, .ref (G.2.2.1 14)), (1, .int x1), (2, .int x2)]) hx hb d_X3_totalOfRun_3 hl (by decide) rfl (fun ls hl => ?_)
  obtain ⟨n, hv⟩ := hv
  exact w_X3_totalOfRun_5 hcx Q n x1 x2 0 0 I L  H locs ls hv hP hD hS (lv_sub hl [2, 3, 4, 1, 0] rfl)
abbrev vc_X3_totalOfRun (x1 : Int32) (x2 : Int32) (I : mm_I) (L : mm_L) (Q : Int64 → mm_I → mm_L → Prop) : Prop := vc_X3_totalOfRun_0 x1 x2 I L Q
set_option maxHeartbeats 4000000 in
set_option maxRecDepth 100000 in
theorem m_X3_totalOfRun (l : Launch) (G : mm_G) (x1 : Int32) (x2 : Int32) (I : mm_I) (L : mm_L) (Q : Int64 → mm_I → mm_L → Prop)  (hv : vc_X3_totalOfRun x1 x2 I L Q) : Met l y_X3_totalOfRun w_X3_totalOfRun rm_X3_totalOfRun (mm_pre G [.ref (G.2.2.1 14), .int x1, .int x2] I L) (mm_ql G Q) 0 0 G.2.2.2.1 := by
  refine Met.ofW (cc := c_X3_totalOfRun) (maxL := 6) (ret := (some .long)) (by decide) rfl ?_
  intro p e s m args below meth c s₁ B hml hw
  obtain ⟨rfl, hP, hK, hD, hC⟩ := hw
  have hts := atoms_spec (ws := w_X3_totalOfRun) B.pre
  have hown : s.vm.findClass RX3 = some m.cls := findClass_of_methodNamed B.named
  have hl := lv_entry ([.ref (G.2.2.1 14), .int x1, .int x2]) (n := 6) (Nat.le_of_ble_eq_true rfl)
  rw [lg_entry_eq]
  generalize (lg_sl ([.ref (G.2.2.1 14), .int x1, .int x2]) ++ List.replicate (6 - (lg_sl ([.ref (G.2.2.1 14), .int x1, .int x2])).length) Slot.unset).toArray = ls at hl ⊢
  have hl : lv_has ls 6 [(0, .ref (G.2.2.1 14)), (1, .int x1), (2, .int x2)] := hl
  exact w_X3_totalOfRun_0 ⟨B.exec, B.bytes, B.returns, B.notSynchronized, hml, hown, fun w h => hts w (List.mem_cons_of_mem _ h), hK, hC⟩ x1 x2 I L Q  hv hP hD va_S.rf hl
abbrev rm_X3_totalOf : Room := { frames := 3, cells := 0, slots := 0, locals := 69 }
def vc_X3_totalOf_5 : Nat → Int32 → Int64 → Int32 → mm_I → mm_L → (Int64 → mm_I → mm_L → Prop) → Prop
  | 0, _, _, _, _, _, _ => False
  | n9 + 1, x1, x2, x4, I, L, Q => ((I 14 3) ≤ x4 → Q x2 I L) ∧ (¬ (I 14 3) ≤ x4 → vp_in x4 16 ∧ (¬ (I 17 x4.toNatClampNeg) = 0 → vc_X3_totalOf_5 n9 x1 x2 (x4 + 1) I L Q) ∧ ((I 17 x4.toNatClampNeg) = 0 → vc_X3_totalOfRun x4 x1 I L (fun r490 I488 L489 => vc_X3_totalOf_5 n9 x1 (x2 + r490) (x4 + 1) I488 L489 Q)))
def vc_X3_totalOf_0 (x1 : Int32) (I : mm_I) (L : mm_L) (Q : Int64 → mm_I → mm_L → Prop) : Prop :=
  ∃ n, vc_X3_totalOf_5 n x1 0 0 I L Q
set_option maxHeartbeats 4000000 in
set_option maxRecDepth 100000 in
theorem w_X3_totalOf_5 {p : Program} {l : Launch} {e : Env} {s : State} {m : MethodId} {args : Array Value} {below : List Frame} {meth : Method} {c : Code} {G : mm_G} (hcx : mm_cx c_X3_totalOf (some .long) 5 RX3 G p s m args meth c) (Q : Int64 → mm_I → mm_L → Prop) : ∀ (n9 : Nat) (x1 : Int32) (x2 : Int64) (x4 : Int32) (I : mm_I) (L : mm_L)  (H : Heap) (locs : List Loc) (ls : Array Slot), vc_X3_totalOf_5 n9 x1 x2 x4 I L Q → mm_PW G I L H → mm_DW G I L → va_S G.2.2.2.1 s.heap H locs → lv_has ls 5 [(0, .ref (G.2.2.1 14)), (1, .int x1), (2, .long x2), (4, .int x4)] → W p l e (headSpec w_X3_totalOf rm_X3_totalOf).room s m args below meth c H locs 0 0 (MQ below (mm_ql G Q) args s 0 0 G.2.2.2.1) (F0 m 5 ls []) := by
  obtain ⟨hx, hb, hr, hlocks, hml, hown, hg, hK, hC⟩ := id hcx
  intro n9
  induction n9 with
  | zero => intro x1 x2 x4 I L H locs ls hv hP hD hS hl; exact hv.elim
  | succ n9 ih =>
    intro x1 x2 x4 I L H locs ls hv hP hD hS hl
    rw [vc_X3_totalOf_5] at hv
    refine lv_iload hx hb d_X3_totalOf_5 (lv_at hl 3 rfl) ?_
    refine lv_aload_n hx hb d_X3_totalOf_7 rfl (lv_at hl 0 rfl) ?_
    refine mm_gi (D := G.1) (C := RX3) (T := TX3) (N0 := 4) hx hb hg in_X3 hown hK hP (t := 14) (by decide) rfl rfl 3 (by decide) (hg _ k_172) (fun _ h9 => h9) rfl d_X3_totalOf_8 ?_
    refine lv_icmp_ge (tgt := 40) hx hb d_X3_totalOf_11 (by decide) (fun hc => ?_) (fun hc => ?_)
    · have hv := hv.1 hc
      refine lv_lload_n hx hb d_X3_totalOf_40 rfl (lv_at hl 2 rfl) ?_
      exact W.lret (v := x2) hx hb hr (fun t ht hW => ⟨⟨x2, (I, L), rfl, hv, mm_mv ht hP⟩, hS.F ht⟩) hS.2.2 d_X3_totalOf_41
    · have hv := hv.2 hc
      refine lv_aload_n hx hb d_X3_totalOf_14 rfl (lv_at hl 0 rfl) ?_
      refine mm_gr (D := G.1) (C := RX3) (T := TX3) (N0 := 4) (r := 17) hx hb hg in_X3 hown hK hP (t := 14) (by decide) rfl rfl 2 (by decide) (hg _ k_173) (fun _ h9 => h9) rfl d_X3_totalOf_15 ?_
      refine lv_iload hx hb d_X3_totalOf_18 (lv_at hl 3 rfl) ?_
      obtain ⟨h487, hv⟩ := hv
      refine mm_zald (D := G.1) hx hb hK hP (t := 17) (by decide) rfl rfl h487 d_X3_totalOf_20 ?_
      refine lv_if_ne (tgt := 34) hx hb d_X3_totalOf_21 (by decide) (fun hc => ?_) (fun hc => ?_)
      · have hv := hv.1 hc
        refine lv_iinc (v := (x4 + 1)) (lv' := [(4, .int (x4 + 1)), (0, .ref (G.2.2.1 14)), (1, .int x1), (2, .long x2)]) hx hb d_X3_totalOf_34 hl (k := 3) rfl (by rfl) (by decide) rfl (fun ls hl => ?_)
        refine lv_goto (tgt := 5) hx hb d_X3_totalOf_37 (by decide) ?_
        exact ih x1 x2 (x4 + 1) I L  H locs ls hv hP hD hS (lv_sub hl [1, 2, 3, 0] rfl)
      · have hv := hv.2 hc
        refine lv_lload_n hx hb d_X3_totalOf_24 rfl (lv_at hl 2 rfl) ?_
        refine lv_aload_n hx hb d_X3_totalOf_25 rfl (lv_at hl 0 rfl) ?_
        refine lv_iload hx hb d_X3_totalOf_26 (lv_at hl 3 rfl) ?_
        refine lv_iload_n hx hb d_X3_totalOf_28 rfl (lv_at hl 1 rfl) ?_
        refine va_calll (va_runV (As := [.int x4, .int x1]) (rest := [.long x2]) ⟨hx, hb, hml, hown, hg⟩ (m_X3_totalOfRun l G x4 x1 I L _  hv) (cwV 2 hg (mm_gV k_197 k_198 k_199 k_139 kc_X3_totalOfRun) rfl rfl rfl (by decide +kernel) ⟨Nat.le_of_ble_eq_true rfl, Nat.le_of_ble_eq_true rfl⟩) ⟨mm_blind, mm_recv hK hP (t := 14) (by decide) rfl rfl, fun U hU hW => mm_call hP hK hD hC hU hS hW⟩ rfl rfl hl.1 rfl (lv_room (Nat.le_of_ble_eq_true rfl)) d_X3_totalOf_29 ⟨Nat.zero_le _, Nat.zero_le _⟩) hS (fun q _ h => h) (fun q h => h) (fun r490 u t H locs ht hvm hv hP hz1 hk1 hS => ?_)
        obtain ⟨I488, L489⟩ := u
        dsimp only at hv hP
        rw [ht] at hP
        have hD : mm_DW G I488 L489 := mm_D_any hD
        refine lv_ladd hx hb d_X3_totalOf_32 ?_
        refine lv_lstore_n (lv' := [(2, .long (x2 + r490)), (0, .ref (G.2.2.1 14)), (1, .int x1), (4, .int x4)]) hx hb d_X3_totalOf_33 rfl hl (by decide) rfl (fun ls hl => ?_)
        refine lv_iinc (v := (x4 + 1)) (lv' := [(4, .int (x4 + 1)), (2, .long (x2 + r490)), (0, .ref (G.2.2.1 14)), (1, .int x1)]) hx hb d_X3_totalOf_34 hl (k := 3) rfl (by rfl) (by decide) rfl (fun ls hl => ?_)
        refine lv_goto (tgt := 5) hx hb d_X3_totalOf_37 (by decide) ?_
        exact ih x1 (x2 + r490) (x4 + 1) I488 L489  H locs ls hv hP hD hS (lv_sub hl [2, 3, 1, 0] rfl)
set_option maxHeartbeats 4000000 in
set_option maxRecDepth 100000 in
theorem w_X3_totalOf_0 {p : Program} {l : Launch} {e : Env} {s : State} {m : MethodId} {args : Array Value} {below : List Frame} {meth : Method} {c : Code} {G : mm_G} (hcx : mm_cx c_X3_totalOf (some .long) 5 RX3 G p s m args meth c) (x1 : Int32) (I : mm_I) (L : mm_L) (Q : Int64 → mm_I → mm_L → Prop)  (hv : vc_X3_totalOf_0 x1 I L Q) {H : Heap} {locs : List Loc} (hP : mm_PW G I L H) (hD : mm_DW G I L) (hS : va_S G.2.2.2.1 s.heap H locs) {ls : Array Slot} (hl : lv_has ls 5 [(0, .ref (G.2.2.1 14)), (1, .int x1)]) : W p l e (headSpec w_X3_totalOf rm_X3_totalOf).room s m args below meth c H locs 0 0 (MQ below (mm_ql G Q) args s 0 0 G.2.2.2.1) (F0 m 0 ls []) := by
  obtain ⟨hx, hb, hr, hlocks, hml, hown, hg, hK, hC⟩ := id hcx
  unfold vc_X3_totalOf_0 at hv
  refine lv_lconst (v := 0) hx hb d_X3_totalOf_0 (by decide) ?_
  refine lv_lstore_n (lv' := [(2, .long 0), (0, .ref (G.2.2.1 14)), (1, .int x1)]) hx hb d_X3_totalOf_1 rfl hl (by decide) rfl (fun ls hl => ?_)
  refine lv_iconst (v := 0) hx hb d_X3_totalOf_2 (by decide) ?_
  refine lv_istore (lv' := [(4, .int 0), (2, .long 0), (0, .ref (G.2.2.1 14)), (1, .int x1)]) hx hb d_X3_totalOf_3 hl (by decide) rfl (fun ls hl => ?_)
  obtain ⟨n, hv⟩ := hv
  exact w_X3_totalOf_5 hcx Q n x1 0 0 I L  H locs ls hv hP hD hS (lv_sub hl [2, 3, 1, 0] rfl)
abbrev vc_X3_totalOf (x1 : Int32) (I : mm_I) (L : mm_L) (Q : Int64 → mm_I → mm_L → Prop) : Prop := vc_X3_totalOf_0 x1 I L Q
set_option maxHeartbeats 4000000 in
set_option maxRecDepth 100000 in
theorem m_X3_totalOf (l : Launch) (G : mm_G) (x1 : Int32) (I : mm_I) (L : mm_L) (Q : Int64 → mm_I → mm_L → Prop)  (hv : vc_X3_totalOf x1 I L Q) : Met l y_X3_totalOf w_X3_totalOf rm_X3_totalOf (mm_pre G [.ref (G.2.2.1 14), .int x1] I L) (mm_ql G Q) 0 0 G.2.2.2.1 := by
  refine Met.ofW (cc := c_X3_totalOf) (maxL := 5) (ret := (some .long)) (by decide) rfl ?_
  intro p e s m args below meth c s₁ B hml hw
  obtain ⟨rfl, hP, hK, hD, hC⟩ := hw
  have hts := atoms_spec (ws := w_X3_totalOf) B.pre
  have hown : s.vm.findClass RX3 = some m.cls := findClass_of_methodNamed B.named
  have hl := lv_entry ([.ref (G.2.2.1 14), .int x1]) (n := 5) (Nat.le_of_ble_eq_true rfl)
  rw [lg_entry_eq]
  generalize (lg_sl ([.ref (G.2.2.1 14), .int x1]) ++ List.replicate (5 - (lg_sl ([.ref (G.2.2.1 14), .int x1])).length) Slot.unset).toArray = ls at hl ⊢
  have hl : lv_has ls 5 [(0, .ref (G.2.2.1 14)), (1, .int x1)] := hl
  exact w_X3_totalOf_0 ⟨B.exec, B.bytes, B.returns, B.notSynchronized, hml, hown, fun w h => hts w (List.mem_cons_of_mem _ h), hK, hC⟩ x1 I L Q  hv hP hD va_S.rf hl
abbrev rm_X6_account : Room := { frames := 4, cells := 0, slots := 0, locals := 93 }
def vc_X6_account_0 (x1 : Int32) (I : mm_I) (L : mm_L) (Q : Int64 → mm_I → mm_L → Prop) : Prop :=
  vc_X6_within x1 3 I L (fun r493 I491 L492 => (¬ r493 = 0 → (¬ x1 = 0 → vc_X3_totalOf x1 I491 L492 (fun r496 I494 L495 => Q (-r496) I494 L495)) ∧ (x1 = 0 → vc_X3_totalOf 0 I491 L492 (fun r499 I497 L498 => Q r499 I497 L498))) ∧ (r493 = 0 → Q 1000000000000 I491 L492))
set_option maxHeartbeats 4000000 in
set_option maxRecDepth 100000 in
theorem w_X6_account_0 {p : Program} {l : Launch} {e : Env} {s : State} {m : MethodId} {args : Array Value} {below : List Frame} {meth : Method} {c : Code} {G : mm_G} (hcx : mm_cx c_X6_account (some .long) 2 RX6 G p s m args meth c) (x1 : Int32) (I : mm_I) (L : mm_L) (Q : Int64 → mm_I → mm_L → Prop)  (hv : vc_X6_account_0 x1 I L Q) {H : Heap} {locs : List Loc} (hP : mm_PW G I L H) (hD : mm_DW G I L) (hS : va_S G.2.2.2.1 s.heap H locs) {ls : Array Slot} (hl : lv_has ls 2 [(0, .ref (G.2.2.1 0)), (1, .int x1)]) : W p l e (headSpec w_X6_account rm_X6_account).room s m args below meth c H locs 0 0 (MQ below (mm_ql G Q) args s 0 0 G.2.2.2.1) (F0 m 0 ls []) := by
  obtain ⟨hx, hb, hr, hlocks, hml, hown, hg, hK, hC⟩ := id hcx
  unfold vc_X6_account_0 at hv
  refine lv_iload_n hx hb d_X6_account_0 rfl (lv_at hl 1 rfl) ?_
  refine lv_iconst (v := 3) hx hb d_X6_account_1 (by decide) ?_
  refine va_calli (va_runS (As := [.int x1, .int 3]) (rest := []) ⟨hx, hb, hml, hown, hg⟩ (m_X6_within l G x1 3 I L _  hv) (va_cwS 2 hg (mm_gS k_42 k_2 k_1 kc_X6_within) rfl rfl rfl (by decide +kernel) ⟨Nat.le_of_ble_eq_true rfl, Nat.le_of_ble_eq_true rfl⟩) ⟨mm_blind, fun U hU hW => mm_call hP hK hD hC hU hS hW⟩ rfl rfl hl.1 rfl (lv_room (Nat.le_of_ble_eq_true rfl)) d_X6_account_2 ⟨Nat.zero_le _, Nat.zero_le _⟩) hS (fun q _ h => h) (fun q h => h) (fun r493 u t H locs ht hvm hv hP hz1 hk1 hS => ?_)
  obtain ⟨I491, L492⟩ := u
  dsimp only at hv hP
  rw [ht] at hP
  have hD : mm_DW G I491 L492 := mm_D_any hD
  refine lv_if_ne (tgt := 12) hx hb d_X6_account_5 (by decide) (fun hc => ?_) (fun hc => ?_)
  · have hv := hv.1 hc
    refine lv_iload_n hx hb d_X6_account_12 rfl (lv_at hl 1 rfl) ?_
    refine lv_if_ne (tgt := 27) hx hb d_X6_account_13 (by decide) (fun hc => ?_) (fun hc => ?_)
    · have hv := hv.1 hc
      refine lv_aload_n hx hb d_X6_account_27 rfl (lv_at hl 0 rfl) ?_
      refine mm_gr (D := G.1) (C := RX6) (T := TX6) (N0 := 3) (r := 14) hx hb hg in_X6 hown hK hP (t := 0) (by decide) rfl rfl 2 (by decide) (hg _ k_152) (fun _ h9 => h9) rfl d_X6_account_28 ?_
      refine lv_iload_n hx hb d_X6_account_31 rfl (lv_at hl 1 rfl) ?_
      refine va_calll (va_runV (As := [.int x1]) (rest := []) ⟨hx, hb, hml, hown, hg⟩ (m_X3_totalOf l G x1 I491 L492 _  hv) (cwV 1 hg (mm_gV k_200 k_201 k_202 k_139 kc_X3_totalOf) rfl rfl rfl (by decide +kernel) ⟨Nat.le_of_ble_eq_true rfl, Nat.le_of_ble_eq_true rfl⟩) ⟨mm_blind, mm_recv hK hP (t := 14) (by decide) rfl rfl, fun U hU hW => mm_call hP hK hD hC hU hS hW⟩ rfl rfl hl.1 rfl (lv_room (Nat.le_of_ble_eq_true rfl)) d_X6_account_32 ⟨Nat.zero_le _, Nat.zero_le _⟩) hS (fun q _ h => h) (fun q h => h) (fun r496 u t H locs ht hvm hv hP hz1 hk1 hS => ?_)
      obtain ⟨I494, L495⟩ := u
      dsimp only at hv hP
      rw [ht] at hP
      have hD : mm_DW G I494 L495 := mm_D_any hD
      refine lv_lneg hx hb d_X6_account_35 ?_
      exact W.lret (v := (-r496)) hx hb hr (fun t ht hW => ⟨⟨(-r496), (I494, L495), rfl, hv, mm_mv ht hP⟩, hS.F ht⟩) hS.2.2 d_X6_account_36
    · have hv := hv.2 hc
      refine lv_aload_n hx hb d_X6_account_16 rfl (lv_at hl 0 rfl) ?_
      refine mm_gr (D := G.1) (C := RX6) (T := TX6) (N0 := 3) (r := 14) hx hb hg in_X6 hown hK hP (t := 0) (by decide) rfl rfl 2 (by decide) (hg _ k_152) (fun _ h9 => h9) rfl d_X6_account_17 ?_
      refine lv_iconst (v := 0) hx hb d_X6_account_20 (by decide) ?_
      refine va_calll (va_runV (As := [.int 0]) (rest := []) ⟨hx, hb, hml, hown, hg⟩ (m_X3_totalOf l G 0 I491 L492 _  hv) (cwV 1 hg (mm_gV k_200 k_201 k_202 k_139 kc_X3_totalOf) rfl rfl rfl (by decide +kernel) ⟨Nat.le_of_ble_eq_true rfl, Nat.le_of_ble_eq_true rfl⟩) ⟨mm_blind, mm_recv hK hP (t := 14) (by decide) rfl rfl, fun U hU hW => mm_call hP hK hD hC hU hS hW⟩ rfl rfl hl.1 rfl (lv_room (Nat.le_of_ble_eq_true rfl)) d_X6_account_21 ⟨Nat.zero_le _, Nat.zero_le _⟩) hS (fun q _ h => h) (fun q h => h) (fun r499 u t H locs ht hvm hv hP hz1 hk1 hS => ?_)
      obtain ⟨I497, L498⟩ := u
      dsimp only at hv hP
      rw [ht] at hP
      have hD : mm_DW G I497 L498 := mm_D_any hD
      refine lv_goto (tgt := 36) hx hb d_X6_account_24 (by decide) ?_
      exact W.lret (v := r499) hx hb hr (fun t ht hW => ⟨⟨r499, (I497, L498), rfl, hv, mm_mv ht hP⟩, hS.F ht⟩) hS.2.2 d_X6_account_36
  · have hv := hv.2 hc
    refine lv_ldc2 (v := 1000000000000) hx hb hown (hg _ k_128) d_X6_account_8 ?_
    exact W.lret (v := 1000000000000) hx hb hr (fun t ht hW => ⟨⟨1000000000000, (I491, L492), rfl, hv, mm_mv ht hP⟩, hS.F ht⟩) hS.2.2 d_X6_account_11
abbrev vc_X6_account (x1 : Int32) (I : mm_I) (L : mm_L) (Q : Int64 → mm_I → mm_L → Prop) : Prop := vc_X6_account_0 x1 I L Q
set_option maxHeartbeats 4000000 in
set_option maxRecDepth 100000 in
theorem m_X6_account (l : Launch) (G : mm_G) (x1 : Int32) (I : mm_I) (L : mm_L) (Q : Int64 → mm_I → mm_L → Prop)  (hv : vc_X6_account x1 I L Q) : Met l y_X6_account w_X6_account rm_X6_account (mm_pre G [.ref (G.2.2.1 0), .int x1] I L) (mm_ql G Q) 0 0 G.2.2.2.1 := by
  refine Met.ofW (cc := c_X6_account) (maxL := 2) (ret := (some .long)) (by decide) rfl ?_
  intro p e s m args below meth c s₁ B hml hw
  obtain ⟨rfl, hP, hK, hD, hC⟩ := hw
  have hts := atoms_spec (ws := w_X6_account) B.pre
  have hown : s.vm.findClass RX6 = some m.cls := findClass_of_methodNamed B.named
  have hl := lv_entry ([.ref (G.2.2.1 0), .int x1]) (n := 2) (Nat.le_of_ble_eq_true rfl)
  rw [lg_entry_eq]
  generalize (lg_sl ([.ref (G.2.2.1 0), .int x1]) ++ List.replicate (2 - (lg_sl ([.ref (G.2.2.1 0), .int x1])).length) Slot.unset).toArray = ls at hl ⊢
  have hl : lv_has ls 2 [(0, .ref (G.2.2.1 0)), (1, .int x1)] := hl
  exact w_X6_account_0 ⟨B.exec, B.bytes, B.returns, B.notSynchronized, hml, hown, fun w h => hts w (List.mem_cons_of_mem _ h), hK, hC⟩ x1 I L Q  hv hP hD va_S.rf hl
abbrev rm_X6_paid : Room := { frames := 1, cells := 0, slots := 0, locals := 21 }
def vc_X6_paid_0 (x1 : Int32) (x2 : Int32) (I : mm_I) (L : mm_L) (Q : Int64 → mm_I → mm_L → Prop) : Prop :=
  vc_X6_within x1 6 I L (fun r502 I500 L501 => (r502 = 0 → Q 1000000000000 I500 L501) ∧ (¬ r502 = 0 → vc_X6_within x2 2 I500 L501 (fun r505 I503 L504 => (¬ r505 = 0 → vp_in x1 6 ∧ vc_X1_paidSoFar (x1.toNatClampNeg) x2 I503 L504 (fun r509 I507 L508 => Q r509 I507 L508)) ∧ (r505 = 0 → Q 1000000000000 I503 L504))))
set_option maxHeartbeats 4000000 in
set_option maxRecDepth 100000 in
theorem w_X6_paid_0 {p : Program} {l : Launch} {e : Env} {s : State} {m : MethodId} {args : Array Value} {below : List Frame} {meth : Method} {c : Code} {G : mm_G} (hcx : mm_cx c_X6_paid (some .long) 3 RX6 G p s m args meth c) (x1 : Int32) (x2 : Int32) (I : mm_I) (L : mm_L) (Q : Int64 → mm_I → mm_L → Prop)  (hv : vc_X6_paid_0 x1 x2 I L Q) {H : Heap} {locs : List Loc} (hP : mm_PW G I L H) (hD : mm_DW G I L) (hS : va_S G.2.2.2.1 s.heap H locs) {ls : Array Slot} (hl : lv_has ls 3 [(0, .ref (G.2.2.1 0)), (1, .int x1), (2, .int x2)]) : W p l e (headSpec w_X6_paid rm_X6_paid).room s m args below meth c H locs 0 0 (MQ below (mm_ql G Q) args s 0 0 G.2.2.2.1) (F0 m 0 ls []) := by
  obtain ⟨hx, hb, hr, hlocks, hml, hown, hg, hK, hC⟩ := id hcx
  unfold vc_X6_paid_0 at hv
  refine lv_iload_n hx hb d_X6_paid_0 rfl (lv_at hl 1 rfl) ?_
  refine lv_bipush (v := 6) hx hb d_X6_paid_1 (by decide) ?_
  refine va_calli (va_runS (As := [.int x1, .int 6]) (rest := []) ⟨hx, hb, hml, hown, hg⟩ (m_X6_within l G x1 6 I L _  hv) (va_cwS 2 hg (mm_gS k_42 k_2 k_1 kc_X6_within) rfl rfl rfl (by decide +kernel) ⟨Nat.le_of_ble_eq_true rfl, Nat.le_of_ble_eq_true rfl⟩) ⟨mm_blind, fun U hU hW => mm_call hP hK hD hC hU hS hW⟩ rfl rfl hl.1 rfl (lv_room (Nat.le_of_ble_eq_true rfl)) d_X6_paid_3 ⟨Nat.zero_le _, Nat.zero_le _⟩) hS (fun q _ h => h) (fun q h => h) (fun r502 u t H locs ht hvm hv hP hz1 hk1 hS => ?_)
  obtain ⟨I500, L501⟩ := u
  dsimp only at hv hP
  rw [ht] at hP
  have hD : mm_DW G I500 L501 := mm_D_any hD
  refine lv_if_eq (tgt := 17) hx hb d_X6_paid_6 (by decide) (fun hc => ?_) (fun hc => ?_)
  · have hv := hv.1 hc
    refine lv_ldc2 (v := 1000000000000) hx hb hown (hg _ k_128) d_X6_paid_17 ?_
    exact W.lret (v := 1000000000000) hx hb hr (fun t ht hW => ⟨⟨1000000000000, (I500, L501), rfl, hv, mm_mv ht hP⟩, hS.F ht⟩) hS.2.2 d_X6_paid_20
  · have hv := hv.2 hc
    refine lv_iload_n hx hb d_X6_paid_9 rfl (lv_at hl 2 rfl) ?_
    refine lv_iconst (v := 2) hx hb d_X6_paid_10 (by decide) ?_
    refine va_calli (va_runS (As := [.int x2, .int 2]) (rest := []) ⟨hx, hb, hml, hown, hg⟩ (m_X6_within l G x2 2 I500 L501 _  hv) (va_cwS 2 hg (mm_gS k_42 k_2 k_1 kc_X6_within) rfl rfl rfl (by decide +kernel) ⟨Nat.le_of_ble_eq_true rfl, Nat.le_of_ble_eq_true rfl⟩) ⟨mm_blind, fun U hU hW => mm_call hP hK hD hC hU hS hW⟩ rfl rfl hl.1 rfl (lv_room (Nat.le_of_ble_eq_true rfl)) d_X6_paid_11 ⟨Nat.zero_le _, Nat.zero_le _⟩) hS (fun q _ h => h) (fun q h => h) (fun r505 u t H locs ht hvm hv hP hz1 hk1 hS => ?_)
    obtain ⟨I503, L504⟩ := u
    dsimp only at hv hP
    rw [ht] at hP
    have hD : mm_DW G I503 L504 := mm_D_any hD
    refine lv_if_ne (tgt := 21) hx hb d_X6_paid_14 (by decide) (fun hc => ?_) (fun hc => ?_)
    · have hv := hv.1 hc
      refine lv_aload_n hx hb d_X6_paid_21 rfl (lv_at hl 0 rfl) ?_
      refine mm_gr (D := G.1) (C := RX6) (T := TX6) (N0 := 3) (r := 13) hx hb hg in_X6 hown hK hP (t := 0) (by decide) rfl rfl 1 (by decide) (hg _ k_54) (fun _ h9 => h9) rfl d_X6_paid_22 ?_
      refine lv_iload_n hx hb d_X6_paid_25 rfl (lv_at hl 1 rfl) ?_
      obtain ⟨h506, hv⟩ := hv
      refine mm_aald (D := G.1) hx hb hK hP (t := 13) (by decide) rfl rfl h506 (r := (24 + x1.toNatClampNeg)) (rfl) d_X6_paid_26 ?_
      refine lv_iload_n hx hb d_X6_paid_27 rfl (lv_at hl 2 rfl) ?_
      refine va_calll (va_runV (As := [.int x2]) (rest := []) ⟨hx, hb, hml, hown, hg⟩ (m_X1_paidSoFar l G (x1.toNatClampNeg) x2 I503 L504 _ (mm_lt h506) hv) (cwV 1 hg (mm_gV k_203 k_100 k_101 k_102 kc_X1_paidSoFar) rfl rfl rfl (by decide +kernel) ⟨Nat.le_of_ble_eq_true rfl, Nat.le_of_ble_eq_true rfl⟩) ⟨mm_blind, mm_recv hK hP (t := (24 + x1.toNatClampNeg)) (ly_N_PS (mm_lt h506)) (ly_PS (mm_lt h506)) rfl, fun U hU hW => mm_call hP hK hD hC hU hS hW⟩ rfl rfl hl.1 rfl (lv_room (Nat.le_of_ble_eq_true rfl)) d_X6_paid_28 ⟨Nat.zero_le _, Nat.zero_le _⟩) hS (fun q _ h => h) (fun q h => h) (fun r509 u t H locs ht hvm hv hP hz1 hk1 hS => ?_)
      obtain ⟨I507, L508⟩ := u
      dsimp only at hv hP
      rw [ht] at hP
      have hD : mm_DW G I507 L508 := mm_D_any hD
      exact W.lret (v := r509) hx hb hr (fun t ht hW => ⟨⟨r509, (I507, L508), rfl, hv, mm_mv ht hP⟩, hS.F ht⟩) hS.2.2 d_X6_paid_31
    · have hv := hv.2 hc
      refine lv_ldc2 (v := 1000000000000) hx hb hown (hg _ k_128) d_X6_paid_17 ?_
      exact W.lret (v := 1000000000000) hx hb hr (fun t ht hW => ⟨⟨1000000000000, (I503, L504), rfl, hv, mm_mv ht hP⟩, hS.F ht⟩) hS.2.2 d_X6_paid_20
abbrev vc_X6_paid (x1 : Int32) (x2 : Int32) (I : mm_I) (L : mm_L) (Q : Int64 → mm_I → mm_L → Prop) : Prop := vc_X6_paid_0 x1 x2 I L Q
set_option maxHeartbeats 4000000 in
set_option maxRecDepth 100000 in
theorem m_X6_paid (l : Launch) (G : mm_G) (x1 : Int32) (x2 : Int32) (I : mm_I) (L : mm_L) (Q : Int64 → mm_I → mm_L → Prop)  (hv : vc_X6_paid x1 x2 I L Q) : Met l y_X6_paid w_X6_paid rm_X6_paid (mm_pre G [.ref (G.2.2.1 0), .int x1, .int x2] I L) (mm_ql G Q) 0 0 G.2.2.2.1 := by
  refine Met.ofW (cc := c_X6_paid) (maxL := 3) (ret := (some .long)) (by decide) rfl ?_
  intro p e s m args below meth c s₁ B hml hw
  obtain ⟨rfl, hP, hK, hD, hC⟩ := hw
  have hts := atoms_spec (ws := w_X6_paid) B.pre
  have hown : s.vm.findClass RX6 = some m.cls := findClass_of_methodNamed B.named
  have hl := lv_entry ([.ref (G.2.2.1 0), .int x1, .int x2]) (n := 3) (Nat.le_of_ble_eq_true rfl)
  rw [lg_entry_eq]
  generalize (lg_sl ([.ref (G.2.2.1 0), .int x1, .int x2]) ++ List.replicate (3 - (lg_sl ([.ref (G.2.2.1 0), .int x1, .int x2])).length) Slot.unset).toArray = ls at hl ⊢
  have hl : lv_has ls 3 [(0, .ref (G.2.2.1 0)), (1, .int x1), (2, .int x2)] := hl
  exact w_X6_paid_0 ⟨B.exec, B.bytes, B.returns, B.notSynchronized, hml, hown, fun w h => hts w (List.mem_cons_of_mem _ h), hK, hC⟩ x1 x2 I L Q  hv hP hD va_S.rf hl
abbrev rm_X3_howManyTakenBack : Room := { frames := 0, cells := 0, slots := 0, locals := 0 }
def vc_X3_howManyTakenBack_4 : Nat → Int32 → Int32 → mm_I → mm_L → (Int32 → mm_I → mm_L → Prop) → Prop
  | 0, _, _, _, _, _ => False
  | n9 + 1, x1, x2, I, L, Q => ((I 14 3) ≤ x2 → Q x1 I L) ∧ (¬ (I 14 3) ≤ x2 → vp_in x2 16 ∧ ((I 17 x2.toNatClampNeg) = 0 → vc_X3_howManyTakenBack_4 n9 x1 (x2 + 1) I L Q) ∧ (¬ (I 17 x2.toNatClampNeg) = 0 → vc_X3_howManyTakenBack_4 n9 (x1 + 1) (x2 + 1) I L Q))
def vc_X3_howManyTakenBack_0  (I : mm_I) (L : mm_L) (Q : Int32 → mm_I → mm_L → Prop) : Prop :=
  ∃ n, vc_X3_howManyTakenBack_4 n 0 0 I L Q
set_option maxHeartbeats 4000000 in
set_option maxRecDepth 100000 in
theorem w_X3_howManyTakenBack_4 {p : Program} {l : Launch} {e : Env} {s : State} {m : MethodId} {args : Array Value} {below : List Frame} {meth : Method} {c : Code} {G : mm_G} (hcx : mm_cx c_X3_howManyTakenBack (some .int) 3 RX3 G p s m args meth c) (Q : Int32 → mm_I → mm_L → Prop) : ∀ (n9 : Nat) (x1 : Int32) (x2 : Int32) (I : mm_I) (L : mm_L)  (H : Heap) (locs : List Loc) (ls : Array Slot), vc_X3_howManyTakenBack_4 n9 x1 x2 I L Q → mm_PW G I L H → mm_DW G I L → va_S G.2.2.2.1 s.heap H locs → lv_has ls 3 [(0, .ref (G.2.2.1 14)), (1, .int x1), (2, .int x2)] → W p l e (headSpec w_X3_howManyTakenBack rm_X3_howManyTakenBack).room s m args below meth c H locs 0 0 (MQ below (mm_qi G Q) args s 0 0 G.2.2.2.1) (F0 m 4 ls []) := by
  obtain ⟨hx, hb, hr, hlocks, hml, hown, hg, hK, hC⟩ := id hcx
  intro n9
  induction n9 with
  | zero => intro x1 x2 I L H locs ls hv hP hD hS hl; exact hv.elim
  | succ n9 ih =>
    intro x1 x2 I L H locs ls hv hP hD hS hl
    rw [vc_X3_howManyTakenBack_4] at hv
    refine lv_iload_n hx hb d_X3_howManyTakenBack_4 rfl (lv_at hl 2 rfl) ?_
    refine lv_aload_n hx hb d_X3_howManyTakenBack_5 rfl (lv_at hl 0 rfl) ?_
    refine mm_gi (D := G.1) (C := RX3) (T := TX3) (N0 := 4) hx hb hg in_X3 hown hK hP (t := 14) (by decide) rfl rfl 3 (by decide) (hg _ k_172) (fun _ h9 => h9) rfl d_X3_howManyTakenBack_6 ?_
    refine lv_icmp_ge (tgt := 30) hx hb d_X3_howManyTakenBack_9 (by decide) (fun hc => ?_) (fun hc => ?_)
    · have hv := hv.1 hc
      refine lv_iload_n hx hb d_X3_howManyTakenBack_30 rfl (lv_at hl 1 rfl) ?_
      exact W.iret (v := x1) hx hb hr (fun t ht hW => ⟨⟨x1, (I, L), rfl, hv, mm_mv ht hP⟩, hS.F ht⟩) hS.2.2 d_X3_howManyTakenBack_31
    · have hv := hv.2 hc
      refine lv_aload_n hx hb d_X3_howManyTakenBack_12 rfl (lv_at hl 0 rfl) ?_
      refine mm_gr (D := G.1) (C := RX3) (T := TX3) (N0 := 4) (r := 17) hx hb hg in_X3 hown hK hP (t := 14) (by decide) rfl rfl 2 (by decide) (hg _ k_173) (fun _ h9 => h9) rfl d_X3_howManyTakenBack_13 ?_
      refine lv_iload_n hx hb d_X3_howManyTakenBack_16 rfl (lv_at hl 2 rfl) ?_
      obtain ⟨h510, hv⟩ := hv
      refine mm_zald (D := G.1) hx hb hK hP (t := 17) (by decide) rfl rfl h510 d_X3_howManyTakenBack_17 ?_
      refine lv_if_eq (tgt := 24) hx hb d_X3_howManyTakenBack_18 (by decide) (fun hc => ?_) (fun hc => ?_)
      · have hv := hv.1 hc
        refine lv_iinc (v := (x2 + 1)) (lv' := [(2, .int (x2 + 1)), (0, .ref (G.2.2.1 14)), (1, .int x1)]) hx hb d_X3_howManyTakenBack_24 hl (k := 2) rfl (by rfl) (by decide) rfl (fun ls hl => ?_)
        refine lv_goto (tgt := 4) hx hb d_X3_howManyTakenBack_27 (by decide) ?_
        exact ih x1 (x2 + 1) I L  H locs ls hv hP hD hS (lv_sub hl [1, 2, 0] rfl)
      · have hv := hv.2 hc
        refine lv_iinc (v := (x1 + 1)) (lv' := [(1, .int (x1 + 1)), (0, .ref (G.2.2.1 14)), (2, .int x2)]) hx hb d_X3_howManyTakenBack_21 hl (k := 1) rfl (by rfl) (by decide) rfl (fun ls hl => ?_)
        refine lv_iinc (v := (x2 + 1)) (lv' := [(2, .int (x2 + 1)), (1, .int (x1 + 1)), (0, .ref (G.2.2.1 14))]) hx hb d_X3_howManyTakenBack_24 hl (k := 2) rfl (by rfl) (by decide) rfl (fun ls hl => ?_)
        refine lv_goto (tgt := 4) hx hb d_X3_howManyTakenBack_27 (by decide) ?_
        exact ih (x1 + 1) (x2 + 1) I L  H locs ls hv hP hD hS (lv_sub hl [2, 1, 0] rfl)
set_option maxHeartbeats 4000000 in
set_option maxRecDepth 100000 in
theorem w_X3_howManyTakenBack_0 {p : Program} {l : Launch} {e : Env} {s : State} {m : MethodId} {args : Array Value} {below : List Frame} {meth : Method} {c : Code} {G : mm_G} (hcx : mm_cx c_X3_howManyTakenBack (some .int) 3 RX3 G p s m args meth c)  (I : mm_I) (L : mm_L) (Q : Int32 → mm_I → mm_L → Prop)  (hv : vc_X3_howManyTakenBack_0  I L Q) {H : Heap} {locs : List Loc} (hP : mm_PW G I L H) (hD : mm_DW G I L) (hS : va_S G.2.2.2.1 s.heap H locs) {ls : Array Slot} (hl : lv_has ls 3 [(0, .ref (G.2.2.1 14))]) : W p l e (headSpec w_X3_howManyTakenBack rm_X3_howManyTakenBack).room s m args below meth c H locs 0 0 (MQ below (mm_qi G Q) args s 0 0 G.2.2.2.1) (F0 m 0 ls []) := by
  obtain ⟨hx, hb, hr, hlocks, hml, hown, hg, hK, hC⟩ := id hcx
  unfold vc_X3_howManyTakenBack_0 at hv
  refine lv_iconst (v := 0) hx hb d_X3_howManyTakenBack_0 (by decide) ?_
  refine lv_istore_n (lv' := [(1, .int 0), (0, .ref (G.2.2.1 14))]) hx hb d_X3_howManyTakenBack_1 rfl hl (by decide) rfl (fun ls hl => ?_)
  refine lv_iconst (v := 0) hx hb d_X3_howManyTakenBack_2 (by decide) ?_
  refine lv_istore_n (lv' := [(2, .int 0), (1, .int 0), (0, .ref (G.2.2.1 14))]) hx hb d_X3_howManyTakenBack_3 rfl hl (by decide) rfl (fun ls hl => ?_)
  obtain ⟨n, hv⟩ := hv
  exact w_X3_howManyTakenBack_4 hcx Q n 0 0 I L  H locs ls hv hP hD hS (lv_sub hl [2, 1, 0] rfl)
abbrev vc_X3_howManyTakenBack  (I : mm_I) (L : mm_L) (Q : Int32 → mm_I → mm_L → Prop) : Prop := vc_X3_howManyTakenBack_0  I L Q
set_option maxHeartbeats 4000000 in
set_option maxRecDepth 100000 in
theorem m_X3_howManyTakenBack (l : Launch) (G : mm_G)  (I : mm_I) (L : mm_L) (Q : Int32 → mm_I → mm_L → Prop)  (hv : vc_X3_howManyTakenBack  I L Q) : Met l y_X3_howManyTakenBack w_X3_howManyTakenBack rm_X3_howManyTakenBack (mm_pre G [.ref (G.2.2.1 14)] I L) (mm_qi G Q) 0 0 G.2.2.2.1 := by
  refine Met.ofW (cc := c_X3_howManyTakenBack) (maxL := 3) (ret := (some .int)) (by decide) rfl ?_
  intro p e s m args below meth c s₁ B hml hw
  obtain ⟨rfl, hP, hK, hD, hC⟩ := hw
  have hts := atoms_spec (ws := w_X3_howManyTakenBack) B.pre
  have hown : s.vm.findClass RX3 = some m.cls := findClass_of_methodNamed B.named
  have hl := lv_entry ([.ref (G.2.2.1 14)]) (n := 3) (Nat.le_of_ble_eq_true rfl)
  rw [lg_entry_eq]
  generalize (lg_sl ([.ref (G.2.2.1 14)]) ++ List.replicate (3 - (lg_sl ([.ref (G.2.2.1 14)])).length) Slot.unset).toArray = ls at hl ⊢
  have hl : lv_has ls 3 [(0, .ref (G.2.2.1 14))] := hl
  exact w_X3_howManyTakenBack_0 ⟨B.exec, B.bytes, B.returns, B.notSynchronized, hml, hown, fun w h => hts w (List.mem_cons_of_mem _ h), hK, hC⟩  I L Q  hv hP hD va_S.rf hl
abbrev rm_X3_slipsStanding : Room := { frames := 3, cells := 0, slots := 0, locals := 66 }
def vc_X3_slipsStanding_4 : Nat → Int32 → Int32 → mm_I → mm_L → (Int32 → mm_I → mm_L → Prop) → Prop
  | 0, _, _, _, _, _ => False
  | n9 + 1, x1, x2, I, L, Q => ((I 14 3) ≤ x2 → Q x1 I L) ∧ (¬ (I 14 3) ≤ x2 → vp_in x2 16 ∧ (¬ (I 17 x2.toNatClampNeg) = 0 → vc_X3_slipsStanding_4 n9 x1 (x2 + 1) I L Q) ∧ ((I 17 x2.toNatClampNeg) = 0 → vc_X3_slipsOf x2 I L (fun r514 I512 L513 => vc_X3_slipsStanding_4 n9 (x1 + r514) (x2 + 1) I512 L513 Q)))
def vc_X3_slipsStanding_0  (I : mm_I) (L : mm_L) (Q : Int32 → mm_I → mm_L → Prop) : Prop :=
  ∃ n, vc_X3_slipsStanding_4 n 0 0 I L Q
set_option maxHeartbeats 4000000 in
set_option maxRecDepth 100000 in
theorem w_X3_slipsStanding_4 {p : Program} {l : Launch} {e : Env} {s : State} {m : MethodId} {args : Array Value} {below : List Frame} {meth : Method} {c : Code} {G : mm_G} (hcx : mm_cx c_X3_slipsStanding (some .int) 3 RX3 G p s m args meth c) (Q : Int32 → mm_I → mm_L → Prop) : ∀ (n9 : Nat) (x1 : Int32) (x2 : Int32) (I : mm_I) (L : mm_L)  (H : Heap) (locs : List Loc) (ls : Array Slot), vc_X3_slipsStanding_4 n9 x1 x2 I L Q → mm_PW G I L H → mm_DW G I L → va_S G.2.2.2.1 s.heap H locs → lv_has ls 3 [(0, .ref (G.2.2.1 14)), (1, .int x1), (2, .int x2)] → W p l e (headSpec w_X3_slipsStanding rm_X3_slipsStanding).room s m args below meth c H locs 0 0 (MQ below (mm_qi G Q) args s 0 0 G.2.2.2.1) (F0 m 4 ls []) := by
  obtain ⟨hx, hb, hr, hlocks, hml, hown, hg, hK, hC⟩ := id hcx
  intro n9
  induction n9 with
  | zero => intro x1 x2 I L H locs ls hv hP hD hS hl; exact hv.elim
  | succ n9 ih =>
    intro x1 x2 I L H locs ls hv hP hD hS hl
    rw [vc_X3_slipsStanding_4] at hv
    refine lv_iload_n hx hb d_X3_slipsStanding_4 rfl (lv_at hl 2 rfl) ?_
    refine lv_aload_n hx hb d_X3_slipsStanding_5 rfl (lv_at hl 0 rfl) ?_
    refine mm_gi (D := G.1) (C := RX3) (T := TX3) (N0 := 4) hx hb hg in_X3 hown hK hP (t := 14) (by decide) rfl rfl 3 (by decide) (hg _ k_172) (fun _ h9 => h9) rfl d_X3_slipsStanding_6 ?_
    refine lv_icmp_ge (tgt := 35) hx hb d_X3_slipsStanding_9 (by decide) (fun hc => ?_) (fun hc => ?_)
    · have hv := hv.1 hc
      refine lv_iload_n hx hb d_X3_slipsStanding_35 rfl (lv_at hl 1 rfl) ?_
      exact W.iret (v := x1) hx hb hr (fun t ht hW => ⟨⟨x1, (I, L), rfl, hv, mm_mv ht hP⟩, hS.F ht⟩) hS.2.2 d_X3_slipsStanding_36
    · have hv := hv.2 hc
      refine lv_aload_n hx hb d_X3_slipsStanding_12 rfl (lv_at hl 0 rfl) ?_
      refine mm_gr (D := G.1) (C := RX3) (T := TX3) (N0 := 4) (r := 17) hx hb hg in_X3 hown hK hP (t := 14) (by decide) rfl rfl 2 (by decide) (hg _ k_173) (fun _ h9 => h9) rfl d_X3_slipsStanding_13 ?_
      refine lv_iload_n hx hb d_X3_slipsStanding_16 rfl (lv_at hl 2 rfl) ?_
      obtain ⟨h511, hv⟩ := hv
      refine mm_zald (D := G.1) hx hb hK hP (t := 17) (by decide) rfl rfl h511 d_X3_slipsStanding_17 ?_
      refine lv_if_ne (tgt := 29) hx hb d_X3_slipsStanding_18 (by decide) (fun hc => ?_) (fun hc => ?_)
      · have hv := hv.1 hc
        refine lv_iinc (v := (x2 + 1)) (lv' := [(2, .int (x2 + 1)), (0, .ref (G.2.2.1 14)), (1, .int x1)]) hx hb d_X3_slipsStanding_29 hl (k := 2) rfl (by rfl) (by decide) rfl (fun ls hl => ?_)
        refine lv_goto (tgt := 4) hx hb d_X3_slipsStanding_32 (by decide) ?_
        exact ih x1 (x2 + 1) I L  H locs ls hv hP hD hS (lv_sub hl [1, 2, 0] rfl)
      · have hv := hv.2 hc
        refine lv_iload_n hx hb d_X3_slipsStanding_21 rfl (lv_at hl 1 rfl) ?_
        refine lv_aload_n hx hb d_X3_slipsStanding_22 rfl (lv_at hl 0 rfl) ?_
        refine lv_iload_n hx hb d_X3_slipsStanding_23 rfl (lv_at hl 2 rfl) ?_
        refine va_calli (va_runV (As := [.int x2]) (rest := [.int x1]) ⟨hx, hb, hml, hown, hg⟩ (m_X3_slipsOf l G x2 I L _  hv) (cwV 1 hg (mm_gV k_204 k_192 k_193 k_139 kc_X3_slipsOf) rfl rfl rfl (by decide +kernel) ⟨Nat.le_of_ble_eq_true rfl, Nat.le_of_ble_eq_true rfl⟩) ⟨mm_blind, mm_recv hK hP (t := 14) (by decide) rfl rfl, fun U hU hW => mm_call hP hK hD hC hU hS hW⟩ rfl rfl hl.1 rfl (lv_room (Nat.le_of_ble_eq_true rfl)) d_X3_slipsStanding_24 ⟨Nat.zero_le _, Nat.zero_le _⟩) hS (fun q _ h => h) (fun q h => h) (fun r514 u t H locs ht hvm hv hP hz1 hk1 hS => ?_)
        obtain ⟨I512, L513⟩ := u
        dsimp only at hv hP
        rw [ht] at hP
        have hD : mm_DW G I512 L513 := mm_D_any hD
        refine lv_iadd hx hb d_X3_slipsStanding_27 ?_
        refine lv_istore_n (lv' := [(1, .int (x1 + r514)), (0, .ref (G.2.2.1 14)), (2, .int x2)]) hx hb d_X3_slipsStanding_28 rfl hl (by decide) rfl (fun ls hl => ?_)
        refine lv_iinc (v := (x2 + 1)) (lv' := [(2, .int (x2 + 1)), (1, .int (x1 + r514)), (0, .ref (G.2.2.1 14))]) hx hb d_X3_slipsStanding_29 hl (k := 2) rfl (by rfl) (by decide) rfl (fun ls hl => ?_)
        refine lv_goto (tgt := 4) hx hb d_X3_slipsStanding_32 (by decide) ?_
        exact ih (x1 + r514) (x2 + 1) I512 L513  H locs ls hv hP hD hS (lv_sub hl [2, 1, 0] rfl)
set_option maxHeartbeats 4000000 in
set_option maxRecDepth 100000 in
theorem w_X3_slipsStanding_0 {p : Program} {l : Launch} {e : Env} {s : State} {m : MethodId} {args : Array Value} {below : List Frame} {meth : Method} {c : Code} {G : mm_G} (hcx : mm_cx c_X3_slipsStanding (some .int) 3 RX3 G p s m args meth c)  (I : mm_I) (L : mm_L) (Q : Int32 → mm_I → mm_L → Prop)  (hv : vc_X3_slipsStanding_0  I L Q) {H : Heap} {locs : List Loc} (hP : mm_PW G I L H) (hD : mm_DW G I L) (hS : va_S G.2.2.2.1 s.heap H locs) {ls : Array Slot} (hl : lv_has ls 3 [(0, .ref (G.2.2.1 14))]) : W p l e (headSpec w_X3_slipsStanding rm_X3_slipsStanding).room s m args below meth c H locs 0 0 (MQ below (mm_qi G Q) args s 0 0 G.2.2.2.1) (F0 m 0 ls []) := by
  obtain ⟨hx, hb, hr, hlocks, hml, hown, hg, hK, hC⟩ := id hcx
  unfold vc_X3_slipsStanding_0 at hv
  refine lv_iconst (v := 0) hx hb d_X3_slipsStanding_0 (by decide) ?_
  refine lv_istore_n (lv' := [(1, .int 0), (0, .ref (G.2.2.1 14))]) hx hb d_X3_slipsStanding_1 rfl hl (by decide) rfl (fun ls hl => ?_)
  refine lv_iconst (v := 0) hx hb d_X3_slipsStanding_2 (by decide) ?_
  refine lv_istore_n (lv' := [(2, .int 0), (1, .int 0), (0, .ref (G.2.2.1 14))]) hx hb d_X3_slipsStanding_3 rfl hl (by decide) rfl (fun ls hl => ?_)
  obtain ⟨n, hv⟩ := hv
  exact w_X3_slipsStanding_4 hcx Q n 0 0 I L  H locs ls hv hP hD hS (lv_sub hl [2, 1, 0] rfl)
abbrev vc_X3_slipsStanding  (I : mm_I) (L : mm_L) (Q : Int32 → mm_I → mm_L → Prop) : Prop := vc_X3_slipsStanding_0  I L Q
set_option maxHeartbeats 4000000 in
set_option maxRecDepth 100000 in
theorem m_X3_slipsStanding (l : Launch) (G : mm_G)  (I : mm_I) (L : mm_L) (Q : Int32 → mm_I → mm_L → Prop)  (hv : vc_X3_slipsStanding  I L Q) : Met l y_X3_slipsStanding w_X3_slipsStanding rm_X3_slipsStanding (mm_pre G [.ref (G.2.2.1 14)] I L) (mm_qi G Q) 0 0 G.2.2.2.1 := by
  refine Met.ofW (cc := c_X3_slipsStanding) (maxL := 3) (ret := (some .int)) (by decide) rfl ?_
  intro p e s m args below meth c s₁ B hml hw
  obtain ⟨rfl, hP, hK, hD, hC⟩ := hw
  have hts := atoms_spec (ws := w_X3_slipsStanding) B.pre
  have hown : s.vm.findClass RX3 = some m.cls := findClass_of_methodNamed B.named
  have hl := lv_entry ([.ref (G.2.2.1 14)]) (n := 3) (Nat.le_of_ble_eq_true rfl)
  rw [lg_entry_eq]
  generalize (lg_sl ([.ref (G.2.2.1 14)]) ++ List.replicate (3 - (lg_sl ([.ref (G.2.2.1 14)])).length) Slot.unset).toArray = ls at hl ⊢
  have hl : lv_has ls 3 [(0, .ref (G.2.2.1 14))] := hl
  exact w_X3_slipsStanding_0 ⟨B.exec, B.bytes, B.returns, B.notSynchronized, hml, hown, fun w h => hts w (List.mem_cons_of_mem _ h), hK, hC⟩  I L Q  hv hP hD va_S.rf hl
abbrev rm_X6_howManyActive : Room := { frames := 0, cells := 0, slots := 0, locals := 0 }
def vc_X6_howManyActive_4 : Nat → Int32 → Int32 → mm_I → mm_L → (Int32 → mm_I → mm_L → Prop) → Prop
  | 0, _, _, _, _, _ => False
  | n9 + 1, x1, x2, I, L, Q => (6 ≤ x2 → Q x1 I L) ∧ (¬ 6 ≤ x2 → vp_in x2 6 ∧ ((I (24 + x2.toNatClampNeg) 3) = 0 → vc_X6_howManyActive_4 n9 x1 (x2 + 1) I L Q) ∧ (¬ (I (24 + x2.toNatClampNeg) 3) = 0 → vc_X6_howManyActive_4 n9 (x1 + 1) (x2 + 1) I L Q))
def vc_X6_howManyActive_0  (I : mm_I) (L : mm_L) (Q : Int32 → mm_I → mm_L → Prop) : Prop :=
  ∃ n, vc_X6_howManyActive_4 n 0 0 I L Q
set_option maxHeartbeats 4000000 in
set_option maxRecDepth 100000 in
theorem w_X6_howManyActive_4 {p : Program} {l : Launch} {e : Env} {s : State} {m : MethodId} {args : Array Value} {below : List Frame} {meth : Method} {c : Code} {G : mm_G} (hcx : mm_cx c_X6_howManyActive (some .int) 3 RX6 G p s m args meth c) (Q : Int32 → mm_I → mm_L → Prop) : ∀ (n9 : Nat) (x1 : Int32) (x2 : Int32) (I : mm_I) (L : mm_L)  (H : Heap) (locs : List Loc) (ls : Array Slot), vc_X6_howManyActive_4 n9 x1 x2 I L Q → mm_PW G I L H → mm_DW G I L → va_S G.2.2.2.1 s.heap H locs → lv_has ls 3 [(0, .ref (G.2.2.1 0)), (1, .int x1), (2, .int x2)] → W p l e (headSpec w_X6_howManyActive rm_X6_howManyActive).room s m args below meth c H locs 0 0 (MQ below (mm_qi G Q) args s 0 0 G.2.2.2.1) (F0 m 4 ls []) := by
  obtain ⟨hx, hb, hr, hlocks, hml, hown, hg, hK, hC⟩ := id hcx
  intro n9
  induction n9 with
  | zero => intro x1 x2 I L H locs ls hv hP hD hS hl; exact hv.elim
  | succ n9 ih =>
    intro x1 x2 I L H locs ls hv hP hD hS hl
    rw [vc_X6_howManyActive_4] at hv
    refine lv_iload_n hx hb d_X6_howManyActive_4 rfl (lv_at hl 2 rfl) ?_
    refine lv_bipush (v := 6) hx hb d_X6_howManyActive_5 (by decide) ?_
    refine lv_icmp_ge (tgt := 31) hx hb d_X6_howManyActive_7 (by decide) (fun hc => ?_) (fun hc => ?_)
    · have hv := hv.1 hc
      refine lv_iload_n hx hb d_X6_howManyActive_31 rfl (lv_at hl 1 rfl) ?_
      exact W.iret (v := x1) hx hb hr (fun t ht hW => ⟨⟨x1, (I, L), rfl, hv, mm_mv ht hP⟩, hS.F ht⟩) hS.2.2 d_X6_howManyActive_32
    · have hv := hv.2 hc
      refine lv_aload_n hx hb d_X6_howManyActive_10 rfl (lv_at hl 0 rfl) ?_
      refine mm_gr (D := G.1) (C := RX6) (T := TX6) (N0 := 3) (r := 13) hx hb hg in_X6 hown hK hP (t := 0) (by decide) rfl rfl 1 (by decide) (hg _ k_54) (fun _ h9 => h9) rfl d_X6_howManyActive_11 ?_
      refine lv_iload_n hx hb d_X6_howManyActive_14 rfl (lv_at hl 2 rfl) ?_
      obtain ⟨h515, hv⟩ := hv
      refine mm_aald (D := G.1) hx hb hK hP (t := 13) (by decide) rfl rfl h515 (r := (24 + x2.toNatClampNeg)) (rfl) d_X6_howManyActive_15 ?_
      refine mm_gi (D := G.1) (C := RX1) (T := TX1) (N0 := 4) hx hb hg in_X1 hown hK hP (t := (24 + x2.toNatClampNeg)) (ly_N_PS (mm_lt h515)) (ly_PS (mm_lt h515)) rfl 3 (by decide) (hg _ k_56) (fun _ h9 => h9) rfl d_X6_howManyActive_16 ?_
      refine lv_if_eq (tgt := 25) hx hb d_X6_howManyActive_19 (by decide) (fun hc => ?_) (fun hc => ?_)
      · have hv := hv.1 hc
        refine lv_iinc (v := (x2 + 1)) (lv' := [(2, .int (x2 + 1)), (0, .ref (G.2.2.1 0)), (1, .int x1)]) hx hb d_X6_howManyActive_25 hl (k := 2) rfl (by rfl) (by decide) rfl (fun ls hl => ?_)
        refine lv_goto (tgt := 4) hx hb d_X6_howManyActive_28 (by decide) ?_
        exact ih x1 (x2 + 1) I L  H locs ls hv hP hD hS (lv_sub hl [1, 2, 0] rfl)
      · have hv := hv.2 hc
        refine lv_iinc (v := (x1 + 1)) (lv' := [(1, .int (x1 + 1)), (0, .ref (G.2.2.1 0)), (2, .int x2)]) hx hb d_X6_howManyActive_22 hl (k := 1) rfl (by rfl) (by decide) rfl (fun ls hl => ?_)
        refine lv_iinc (v := (x2 + 1)) (lv' := [(2, .int (x2 + 1)), (1, .int (x1 + 1)), (0, .ref (G.2.2.1 0))]) hx hb d_X6_howManyActive_25 hl (k := 2) rfl (by rfl) (by decide) rfl (fun ls hl => ?_)
        refine lv_goto (tgt := 4) hx hb d_X6_howManyActive_28 (by decide) ?_
        exact ih (x1 + 1) (x2 + 1) I L  H locs ls hv hP hD hS (lv_sub hl [2, 1, 0] rfl)
set_option maxHeartbeats 4000000 in
set_option maxRecDepth 100000 in
theorem w_X6_howManyActive_0 {p : Program} {l : Launch} {e : Env} {s : State} {m : MethodId} {args : Array Value} {below : List Frame} {meth : Method} {c : Code} {G : mm_G} (hcx : mm_cx c_X6_howManyActive (some .int) 3 RX6 G p s m args meth c)  (I : mm_I) (L : mm_L) (Q : Int32 → mm_I → mm_L → Prop)  (hv : vc_X6_howManyActive_0  I L Q) {H : Heap} {locs : List Loc} (hP : mm_PW G I L H) (hD : mm_DW G I L) (hS : va_S G.2.2.2.1 s.heap H locs) {ls : Array Slot} (hl : lv_has ls 3 [(0, .ref (G.2.2.1 0))]) : W p l e (headSpec w_X6_howManyActive rm_X6_howManyActive).room s m args below meth c H locs 0 0 (MQ below (mm_qi G Q) args s 0 0 G.2.2.2.1) (F0 m 0 ls []) := by
  obtain ⟨hx, hb, hr, hlocks, hml, hown, hg, hK, hC⟩ := id hcx
  unfold vc_X6_howManyActive_0 at hv
  refine lv_iconst (v := 0) hx hb d_X6_howManyActive_0 (by decide) ?_
  refine lv_istore_n (lv' := [(1, .int 0), (0, .ref (G.2.2.1 0))]) hx hb d_X6_howManyActive_1 rfl hl (by decide) rfl (fun ls hl => ?_)
  refine lv_iconst (v := 0) hx hb d_X6_howManyActive_2 (by decide) ?_
  refine lv_istore_n (lv' := [(2, .int 0), (1, .int 0), (0, .ref (G.2.2.1 0))]) hx hb d_X6_howManyActive_3 rfl hl (by decide) rfl (fun ls hl => ?_)
  obtain ⟨n, hv⟩ := hv
  exact w_X6_howManyActive_4 hcx Q n 0 0 I L  H locs ls hv hP hD hS (lv_sub hl [2, 1, 0] rfl)
abbrev vc_X6_howManyActive  (I : mm_I) (L : mm_L) (Q : Int32 → mm_I → mm_L → Prop) : Prop := vc_X6_howManyActive_0  I L Q
set_option maxHeartbeats 4000000 in
set_option maxRecDepth 100000 in
theorem m_X6_howManyActive (l : Launch) (G : mm_G)  (I : mm_I) (L : mm_L) (Q : Int32 → mm_I → mm_L → Prop)  (hv : vc_X6_howManyActive  I L Q) : Met l y_X6_howManyActive w_X6_howManyActive rm_X6_howManyActive (mm_pre G [.ref (G.2.2.1 0)] I L) (mm_qi G Q) 0 0 G.2.2.2.1 := by
  refine Met.ofW (cc := c_X6_howManyActive) (maxL := 3) (ret := (some .int)) (by decide) rfl ?_
  intro p e s m args below meth c s₁ B hml hw
  obtain ⟨rfl, hP, hK, hD, hC⟩ := hw
  have hts := atoms_spec (ws := w_X6_howManyActive) B.pre
  have hown : s.vm.findClass RX6 = some m.cls := findClass_of_methodNamed B.named
  have hl := lv_entry ([.ref (G.2.2.1 0)]) (n := 3) (Nat.le_of_ble_eq_true rfl)
  rw [lg_entry_eq]
  generalize (lg_sl ([.ref (G.2.2.1 0)]) ++ List.replicate (3 - (lg_sl ([.ref (G.2.2.1 0)])).length) Slot.unset).toArray = ls at hl ⊢
  have hl : lv_has ls 3 [(0, .ref (G.2.2.1 0))] := hl
  exact w_X6_howManyActive_0 ⟨B.exec, B.bytes, B.returns, B.notSynchronized, hml, hown, fun w h => hts w (List.mem_cons_of_mem _ h), hK, hC⟩  I L Q  hv hP hD va_S.rf hl
abbrev rm_X2_definitionBits : Room := { frames := 0, cells := 0, slots := 0, locals := 0 }
def vc_X2_definitionBits_4 : Nat → Int32 → Int32 → mm_I → mm_L → (Int32 → mm_I → mm_L → Prop) → Prop
  | 0, _, _, _, _, _ => False
  | n9 + 1, x1, x2, I, L, Q => (8 ≤ x2 → Q x1 I L) ∧ (¬ 8 ≤ x2 → vp_in x2 8 ∧ ((I 10 x2.toNatClampNeg) = (-1) → vc_X2_definitionBits_4 n9 x1 (x2 + 1) I L Q) ∧ (¬ (I 10 x2.toNatClampNeg) = (-1) → vc_X2_definitionBits_4 n9 (x1 ||| (1 <<< (x2 &&& 31))) (x2 + 1) I L Q))
def vc_X2_definitionBits_0  (I : mm_I) (L : mm_L) (Q : Int32 → mm_I → mm_L → Prop) : Prop :=
  ∃ n, vc_X2_definitionBits_4 n 0 0 I L Q
set_option maxHeartbeats 4000000 in
set_option maxRecDepth 100000 in
theorem w_X2_definitionBits_4 {p : Program} {l : Launch} {e : Env} {s : State} {m : MethodId} {args : Array Value} {below : List Frame} {meth : Method} {c : Code} {G : mm_G} (hcx : mm_cx c_X2_definitionBits (some .int) 3 RX2 G p s m args meth c) (Q : Int32 → mm_I → mm_L → Prop) : ∀ (n9 : Nat) (x1 : Int32) (x2 : Int32) (I : mm_I) (L : mm_L)  (H : Heap) (locs : List Loc) (ls : Array Slot), vc_X2_definitionBits_4 n9 x1 x2 I L Q → mm_PW G I L H → mm_DW G I L → va_S G.2.2.2.1 s.heap H locs → lv_has ls 3 [(0, .ref (G.2.2.1 1)), (1, .int x1), (2, .int x2)] → W p l e (headSpec w_X2_definitionBits rm_X2_definitionBits).room s m args below meth c H locs 0 0 (MQ below (mm_qi G Q) args s 0 0 G.2.2.2.1) (F0 m 4 ls []) := by
  obtain ⟨hx, hb, hr, hlocks, hml, hown, hg, hK, hC⟩ := id hcx
  intro n9
  induction n9 with
  | zero => intro x1 x2 I L H locs ls hv hP hD hS hl; exact hv.elim
  | succ n9 ih =>
    intro x1 x2 I L H locs ls hv hP hD hS hl
    rw [vc_X2_definitionBits_4] at hv
    refine lv_iload_n hx hb d_X2_definitionBits_4 rfl (lv_at hl 2 rfl) ?_
    refine lv_bipush (v := 8) hx hb d_X2_definitionBits_5 (by decide) ?_
    refine lv_icmp_ge (tgt := 32) hx hb d_X2_definitionBits_7 (by decide) (fun hc => ?_) (fun hc => ?_)
    · have hv := hv.1 hc
      refine lv_iload_n hx hb d_X2_definitionBits_32 rfl (lv_at hl 1 rfl) ?_
      exact W.iret (v := x1) hx hb hr (fun t ht hW => ⟨⟨x1, (I, L), rfl, hv, mm_mv ht hP⟩, hS.F ht⟩) hS.2.2 d_X2_definitionBits_33
    · have hv := hv.2 hc
      refine lv_aload_n hx hb d_X2_definitionBits_10 rfl (lv_at hl 0 rfl) ?_
      refine mm_gr (D := G.1) (C := RX2) (T := TX2) (N0 := 4) (r := 10) hx hb hg in_X2 hown hK hP (t := 1) (by decide) rfl rfl 1 (by decide) (hg _ k_66) (fun _ h9 => h9) rfl d_X2_definitionBits_11 ?_
      refine lv_iload_n hx hb d_X2_definitionBits_14 rfl (lv_at hl 2 rfl) ?_
      obtain ⟨h516, hv⟩ := hv
      refine mm_iald (D := G.1) hx hb hK hP (t := 10) (by decide) rfl rfl h516 d_X2_definitionBits_15 ?_
      refine lv_iconst (v := (-1)) hx hb d_X2_definitionBits_16 (by decide) ?_
      refine lv_icmp_eq (tgt := 26) hx hb d_X2_definitionBits_17 (by decide) (fun hc => ?_) (fun hc => ?_)
      · have hv := hv.1 hc
        refine lv_iinc (v := (x2 + 1)) (lv' := [(2, .int (x2 + 1)), (0, .ref (G.2.2.1 1)), (1, .int x1)]) hx hb d_X2_definitionBits_26 hl (k := 2) rfl (by rfl) (by decide) rfl (fun ls hl => ?_)
        refine lv_goto (tgt := 4) hx hb d_X2_definitionBits_29 (by decide) ?_
        exact ih x1 (x2 + 1) I L  H locs ls hv hP hD hS (lv_sub hl [1, 2, 0] rfl)
      · have hv := hv.2 hc
        refine lv_iload_n hx hb d_X2_definitionBits_20 rfl (lv_at hl 1 rfl) ?_
        refine lv_iconst (v := 1) hx hb d_X2_definitionBits_21 (by decide) ?_
        refine lv_iload_n hx hb d_X2_definitionBits_22 rfl (lv_at hl 2 rfl) ?_
        refine lv_ishl hx hb d_X2_definitionBits_23 ?_
        refine lv_ior hx hb d_X2_definitionBits_24 ?_
        refine lv_istore_n (lv' := [(1, .int (x1 ||| (1 <<< (x2 &&& 31)))), (0, .ref (G.2.2.1 1)), (2, .int x2)]) hx hb d_X2_definitionBits_25 rfl hl (by decide) rfl (fun ls hl => ?_)
        refine lv_iinc (v := (x2 + 1)) (lv' := [(2, .int (x2 + 1)), (1, .int (x1 ||| (1 <<< (x2 &&& 31)))), (0, .ref (G.2.2.1 1))]) hx hb d_X2_definitionBits_26 hl (k := 2) rfl (by rfl) (by decide) rfl (fun ls hl => ?_)
        refine lv_goto (tgt := 4) hx hb d_X2_definitionBits_29 (by decide) ?_
        exact ih (x1 ||| (1 <<< (x2 &&& 31))) (x2 + 1) I L  H locs ls hv hP hD hS (lv_sub hl [2, 1, 0] rfl)
set_option maxHeartbeats 4000000 in
set_option maxRecDepth 100000 in
theorem w_X2_definitionBits_0 {p : Program} {l : Launch} {e : Env} {s : State} {m : MethodId} {args : Array Value} {below : List Frame} {meth : Method} {c : Code} {G : mm_G} (hcx : mm_cx c_X2_definitionBits (some .int) 3 RX2 G p s m args meth c)  (I : mm_I) (L : mm_L) (Q : Int32 → mm_I → mm_L → Prop)  (hv : vc_X2_definitionBits_0  I L Q) {H : Heap} {locs : List Loc} (hP : mm_PW G I L H) (hD : mm_DW G I L) (hS : va_S G.2.2.2.1 s.heap H locs) {ls : Array Slot} (hl : lv_has ls 3 [(0, .ref (G.2.2.1 1))]) : W p l e (headSpec w_X2_definitionBits rm_X2_definitionBits).room s m args below meth c H locs 0 0 (MQ below (mm_qi G Q) args s 0 0 G.2.2.2.1) (F0 m 0 ls []) := by
  obtain ⟨hx, hb, hr, hlocks, hml, hown, hg, hK, hC⟩ := id hcx
  unfold vc_X2_definitionBits_0 at hv
  refine lv_iconst (v := 0) hx hb d_X2_definitionBits_0 (by decide) ?_
  refine lv_istore_n (lv' := [(1, .int 0), (0, .ref (G.2.2.1 1))]) hx hb d_X2_definitionBits_1 rfl hl (by decide) rfl (fun ls hl => ?_)
  refine lv_iconst (v := 0) hx hb d_X2_definitionBits_2 (by decide) ?_
  refine lv_istore_n (lv' := [(2, .int 0), (1, .int 0), (0, .ref (G.2.2.1 1))]) hx hb d_X2_definitionBits_3 rfl hl (by decide) rfl (fun ls hl => ?_)
  obtain ⟨n, hv⟩ := hv
  exact w_X2_definitionBits_4 hcx Q n 0 0 I L  H locs ls hv hP hD hS (lv_sub hl [2, 1, 0] rfl)
abbrev vc_X2_definitionBits  (I : mm_I) (L : mm_L) (Q : Int32 → mm_I → mm_L → Prop) : Prop := vc_X2_definitionBits_0  I L Q
set_option maxHeartbeats 4000000 in
set_option maxRecDepth 100000 in
theorem m_X2_definitionBits (l : Launch) (G : mm_G)  (I : mm_I) (L : mm_L) (Q : Int32 → mm_I → mm_L → Prop)  (hv : vc_X2_definitionBits  I L Q) : Met l y_X2_definitionBits w_X2_definitionBits rm_X2_definitionBits (mm_pre G [.ref (G.2.2.1 1)] I L) (mm_qi G Q) 0 0 G.2.2.2.1 := by
  refine Met.ofW (cc := c_X2_definitionBits) (maxL := 3) (ret := (some .int)) (by decide) rfl ?_
  intro p e s m args below meth c s₁ B hml hw
  obtain ⟨rfl, hP, hK, hD, hC⟩ := hw
  have hts := atoms_spec (ws := w_X2_definitionBits) B.pre
  have hown : s.vm.findClass RX2 = some m.cls := findClass_of_methodNamed B.named
  have hl := lv_entry ([.ref (G.2.2.1 1)]) (n := 3) (Nat.le_of_ble_eq_true rfl)
  rw [lg_entry_eq]
  generalize (lg_sl ([.ref (G.2.2.1 1)]) ++ List.replicate (3 - (lg_sl ([.ref (G.2.2.1 1)])).length) Slot.unset).toArray = ls at hl ⊢
  have hl : lv_has ls 3 [(0, .ref (G.2.2.1 1))] := hl
  exact w_X2_definitionBits_0 ⟨B.exec, B.bytes, B.returns, B.notSynchronized, hml, hown, fun w h => hts w (List.mem_cons_of_mem _ h), hK, hC⟩  I L Q  hv hP hD va_S.rf hl
abbrev rm_X6_count : Room := { frames := 4, cells := 0, slots := 0, locals := 88 }
def vc_X6_count_0 (x1 : Int32) (I : mm_I) (L : mm_L) (Q : Int32 → mm_I → mm_L → Prop) : Prop :=
  ((x1.toInt < 0 ∨ 8 ≤ x1.toInt) → Q (-1) I L) ∧ (x1 = 0 → Q (I 2 7) I L) ∧ (x1 = 1 → Q (I 14 3) I L) ∧ (x1 = 2 → vc_X3_howManyTakenBack  I L (fun r519 I517 L518 => Q r519 I517 L518)) ∧ (x1 = 3 → vc_X3_slipsStanding  I L (fun r522 I520 L521 => Q r522 I520 L521)) ∧ (x1 = 4 → vc_X6_howManyActive  I L (fun r525 I523 L524 => Q r525 I523 L524)) ∧ (x1 = 5 → vp_in 0 2 ∧ Q (I (18 + (0 : Int32).toNatClampNeg) 2) I L) ∧ (x1 = 6 → vp_in 1 2 ∧ Q (I (18 + (1 : Int32).toNatClampNeg) 2) I L) ∧ (x1 = 7 → vc_X2_definitionBits  I L (fun r530 I528 L529 => Q r530 I528 L529))
set_option maxHeartbeats 4000000 in
set_option maxRecDepth 100000 in
theorem w_X6_count_0 {p : Program} {l : Launch} {e : Env} {s : State} {m : MethodId} {args : Array Value} {below : List Frame} {meth : Method} {c : Code} {G : mm_G} (hcx : mm_cx c_X6_count (some .int) 2 RX6 G p s m args meth c) (x1 : Int32) (I : mm_I) (L : mm_L) (Q : Int32 → mm_I → mm_L → Prop)  (hv : vc_X6_count_0 x1 I L Q) {H : Heap} {locs : List Loc} (hP : mm_PW G I L H) (hD : mm_DW G I L) (hS : va_S G.2.2.2.1 s.heap H locs) {ls : Array Slot} (hl : lv_has ls 2 [(0, .ref (G.2.2.1 0)), (1, .int x1)]) : W p l e (headSpec w_X6_count rm_X6_count).room s m args below meth c H locs 0 0 (MQ below (mm_qi G Q) args s 0 0 G.2.2.2.1) (F0 m 0 ls []) := by
  obtain ⟨hx, hb, hr, hlocks, hml, hown, hg, hK, hC⟩ := id hcx
  unfold vc_X6_count_0 at hv
  refine lv_iload_n hx hb d_X6_count_0 rfl (lv_at hl 1 rfl) ?_
  obtain h0 | ⟨k9, hk9, he⟩ := mm_sw x1 0 8
  · have hv := hv.1 h0
    refine lv_tableOut (tgt := 122) hx hb d_X6_count_1 (by omega) (by decide) ?_
    refine lv_iconst (v := (-1)) hx hb d_X6_count_122 (by decide) ?_
    exact W.iret (v := (-1)) hx hb hr (fun t ht hW => ⟨⟨(-1), (I, L), rfl, hv, mm_mv ht hP⟩, hS.F ht⟩) hS.2.2 d_X6_count_123
  obtain rfl | rfl | rfl | rfl | rfl | rfl | rfl | rfl : k9 = 0 ∨ k9 = 1 ∨ k9 = 2 ∨ k9 = 3 ∨ k9 = 4 ∨ k9 = 5 ∨ k9 = 6 ∨ k9 = 7 := by omega
  · have he : x1 = 0 := he
    have hv := hv.2.1 he
    refine lv_tableIn (tgt := 48) hx hb d_X6_count_1 (by rw [he]; decide) (by rw [he]; decide) (by rw [he]; rfl) (by decide) ?_
    refine lv_aload_n hx hb d_X6_count_48 rfl (lv_at hl 0 rfl) ?_
    refine mm_gr (D := G.1) (C := RX6) (T := TX6) (N0 := 3) (r := 1) hx hb hg in_X6 hown hK hP (t := 0) (by decide) rfl rfl 0 (by decide) (hg _ k_34) (fun _ h9 => h9) rfl d_X6_count_49 ?_
    refine mm_gr (D := G.1) (C := RX2) (T := TX2) (N0 := 4) (r := 2) hx hb hg in_X2 hown hK hP (t := 1) (by decide) rfl rfl 0 (by decide) (hg _ k_35) (fun _ h9 => h9) rfl d_X6_count_52 ?_
    refine mm_gi (D := G.1) (C := RX0) (T := TX0) (N0 := 8) hx hb hg in_X0 hown hK hP (t := 2) (by decide) rfl rfl 7 (by decide) (hg _ k_205) (fun _ h9 => h9) rfl d_X6_count_55 ?_
    exact W.iret (v := (I 2 7)) hx hb hr (fun t ht hW => ⟨⟨(I 2 7), (I, L), rfl, hv, mm_mv ht hP⟩, hS.F ht⟩) hS.2.2 d_X6_count_58
  · have he : x1 = 1 := he
    have hv := hv.2.2.1 he
    refine lv_tableIn (tgt := 59) hx hb d_X6_count_1 (by rw [he]; decide) (by rw [he]; decide) (by rw [he]; rfl) (by decide) ?_
    refine lv_aload_n hx hb d_X6_count_59 rfl (lv_at hl 0 rfl) ?_
    refine mm_gr (D := G.1) (C := RX6) (T := TX6) (N0 := 3) (r := 14) hx hb hg in_X6 hown hK hP (t := 0) (by decide) rfl rfl 2 (by decide) (hg _ k_152) (fun _ h9 => h9) rfl d_X6_count_60 ?_
    refine mm_gi (D := G.1) (C := RX3) (T := TX3) (N0 := 4) hx hb hg in_X3 hown hK hP (t := 14) (by decide) rfl rfl 3 (by decide) (hg _ k_168) (fun _ h9 => h9) rfl d_X6_count_63 ?_
    exact W.iret (v := (I 14 3)) hx hb hr (fun t ht hW => ⟨⟨(I 14 3), (I, L), rfl, hv, mm_mv ht hP⟩, hS.F ht⟩) hS.2.2 d_X6_count_66
  · have he : x1 = 2 := he
    have hv := hv.2.2.2.1 he
    refine lv_tableIn (tgt := 67) hx hb d_X6_count_1 (by rw [he]; decide) (by rw [he]; decide) (by rw [he]; rfl) (by decide) ?_
    refine lv_aload_n hx hb d_X6_count_67 rfl (lv_at hl 0 rfl) ?_
    refine mm_gr (D := G.1) (C := RX6) (T := TX6) (N0 := 3) (r := 14) hx hb hg in_X6 hown hK hP (t := 0) (by decide) rfl rfl 2 (by decide) (hg _ k_152) (fun _ h9 => h9) rfl d_X6_count_68 ?_
    refine va_calli (va_runV (As := []) (rest := []) ⟨hx, hb, hml, hown, hg⟩ (m_X3_howManyTakenBack l G  I L _  hv) (cwV 0 hg (mm_gV k_206 k_207 k_208 k_139 kc_X3_howManyTakenBack) rfl rfl rfl (by decide +kernel) ⟨Nat.le_of_ble_eq_true rfl, Nat.le_of_ble_eq_true rfl⟩) ⟨mm_blind, mm_recv hK hP (t := 14) (by decide) rfl rfl, fun U hU hW => mm_call hP hK hD hC hU hS hW⟩ rfl rfl hl.1 rfl (lv_room (Nat.le_of_ble_eq_true rfl)) d_X6_count_71 ⟨Nat.zero_le _, Nat.zero_le _⟩) hS (fun q _ h => h) (fun q h => h) (fun r519 u t H locs ht hvm hv hP hz1 hk1 hS => ?_)
    obtain ⟨I517, L518⟩ := u
    dsimp only at hv hP
    rw [ht] at hP
    have hD : mm_DW G I517 L518 := mm_D_any hD
    exact W.iret (v := r519) hx hb hr (fun t ht hW => ⟨⟨r519, (I517, L518), rfl, hv, mm_mv ht hP⟩, hS.F ht⟩) hS.2.2 d_X6_count_74
  · have he : x1 = 3 := he
    have hv := hv.2.2.2.2.1 he
    refine lv_tableIn (tgt := 75) hx hb d_X6_count_1 (by rw [he]; decide) (by rw [he]; decide) (by rw [he]; rfl) (by decide) ?_
    refine lv_aload_n hx hb d_X6_count_75 rfl (lv_at hl 0 rfl) ?_
    refine mm_gr (D := G.1) (C := RX6) (T := TX6) (N0 := 3) (r := 14) hx hb hg in_X6 hown hK hP (t := 0) (by decide) rfl rfl 2 (by decide) (hg _ k_152) (fun _ h9 => h9) rfl d_X6_count_76 ?_
    refine va_calli (va_runV (As := []) (rest := []) ⟨hx, hb, hml, hown, hg⟩ (m_X3_slipsStanding l G  I L _  hv) (cwV 0 hg (mm_gV k_209 k_210 k_211 k_139 kc_X3_slipsStanding) rfl rfl rfl (by decide +kernel) ⟨Nat.le_of_ble_eq_true rfl, Nat.le_of_ble_eq_true rfl⟩) ⟨mm_blind, mm_recv hK hP (t := 14) (by decide) rfl rfl, fun U hU hW => mm_call hP hK hD hC hU hS hW⟩ rfl rfl hl.1 rfl (lv_room (Nat.le_of_ble_eq_true rfl)) d_X6_count_79 ⟨Nat.zero_le _, Nat.zero_le _⟩) hS (fun q _ h => h) (fun q h => h) (fun r522 u t H locs ht hvm hv hP hz1 hk1 hS => ?_)
    obtain ⟨I520, L521⟩ := u
    dsimp only at hv hP
    rw [ht] at hP
    have hD : mm_DW G I520 L521 := mm_D_any hD
    exact W.iret (v := r522) hx hb hr (fun t ht hW => ⟨⟨r522, (I520, L521), rfl, hv, mm_mv ht hP⟩, hS.F ht⟩) hS.2.2 d_X6_count_82
  · have he : x1 = 4 := he
    have hv := hv.2.2.2.2.2.1 he
    refine lv_tableIn (tgt := 83) hx hb d_X6_count_1 (by rw [he]; decide) (by rw [he]; decide) (by rw [he]; rfl) (by decide) ?_
    refine lv_aload_n hx hb d_X6_count_83 rfl (lv_at hl 0 rfl) ?_
    refine va_calli (va_runV (As := []) (rest := []) ⟨hx, hb, hml, hown, hg⟩ (m_X6_howManyActive l G  I L _  hv) (cwV 0 hg (mm_gV k_212 k_213 k_214 k_1 kc_X6_howManyActive) rfl rfl rfl (by decide +kernel) ⟨Nat.le_of_ble_eq_true rfl, Nat.le_of_ble_eq_true rfl⟩) ⟨mm_blind, mm_recv hK hP (t := 0) (by decide) rfl rfl, fun U hU hW => mm_call hP hK hD hC hU hS hW⟩ rfl rfl hl.1 rfl (lv_room (Nat.le_of_ble_eq_true rfl)) d_X6_count_84 ⟨Nat.zero_le _, Nat.zero_le _⟩) hS (fun q _ h => h) (fun q h => h) (fun r525 u t H locs ht hvm hv hP hz1 hk1 hS => ?_)
    obtain ⟨I523, L524⟩ := u
    dsimp only at hv hP
    rw [ht] at hP
    have hD : mm_DW G I523 L524 := mm_D_any hD
    exact W.iret (v := r525) hx hb hr (fun t ht hW => ⟨⟨r525, (I523, L524), rfl, hv, mm_mv ht hP⟩, hS.F ht⟩) hS.2.2 d_X6_count_87
  · have he : x1 = 5 := he
    have hv := hv.2.2.2.2.2.2.1 he
    refine lv_tableIn (tgt := 88) hx hb d_X6_count_1 (by rw [he]; decide) (by rw [he]; decide) (by rw [he]; rfl) (by decide) ?_
    refine lv_aload_n hx hb d_X6_count_88 rfl (lv_at hl 0 rfl) ?_
    refine mm_gr (D := G.1) (C := RX6) (T := TX6) (N0 := 3) (r := 1) hx hb hg in_X6 hown hK hP (t := 0) (by decide) rfl rfl 0 (by decide) (hg _ k_34) (fun _ h9 => h9) rfl d_X6_count_89 ?_
    refine mm_gr (D := G.1) (C := RX2) (T := TX2) (N0 := 4) (r := 11) hx hb hg in_X2 hown hK hP (t := 1) (by decide) rfl rfl 2 (by decide) (hg _ k_46) (fun _ h9 => h9) rfl d_X6_count_92 ?_
    refine lv_iconst (v := 0) hx hb d_X6_count_95 (by decide) ?_
    obtain ⟨h526, hv⟩ := hv
    refine mm_aald (D := G.1) hx hb hK hP (t := 11) (by decide) rfl rfl h526 (r := (18 + (0 : Int32).toNatClampNeg)) (rfl) d_X6_count_96 ?_
    refine mm_gi (D := G.1) (C := RX4) (T := TX4) (N0 := 3) hx hb hg in_X4 hown hK hP (t := (18 + (0 : Int32).toNatClampNeg)) (ly_N_TB (mm_lt h526)) (ly_TB (mm_lt h526)) rfl 2 (by decide) (hg _ k_215) (fun _ h9 => h9) rfl d_X6_count_97 ?_
    exact W.iret (v := (I (18 + (0 : Int32).toNatClampNeg) 2)) hx hb hr (fun t ht hW => ⟨⟨(I (18 + (0 : Int32).toNatClampNeg) 2), (I, L), rfl, hv, mm_mv ht hP⟩, hS.F ht⟩) hS.2.2 d_X6_count_100
  · have he : x1 = 6 := he
    have hv := hv.2.2.2.2.2.2.2.1 he
    refine lv_tableIn (tgt := 101) hx hb d_X6_count_1 (by rw [he]; decide) (by rw [he]; decide) (by rw [he]; rfl) (by decide) ?_
    refine lv_aload_n hx hb d_X6_count_101 rfl (lv_at hl 0 rfl) ?_
    refine mm_gr (D := G.1) (C := RX6) (T := TX6) (N0 := 3) (r := 1) hx hb hg in_X6 hown hK hP (t := 0) (by decide) rfl rfl 0 (by decide) (hg _ k_34) (fun _ h9 => h9) rfl d_X6_count_102 ?_
    refine mm_gr (D := G.1) (C := RX2) (T := TX2) (N0 := 4) (r := 11) hx hb hg in_X2 hown hK hP (t := 1) (by decide) rfl rfl 2 (by decide) (hg _ k_46) (fun _ h9 => h9) rfl d_X6_count_105 ?_
    refine lv_iconst (v := 1) hx hb d_X6_count_108 (by decide) ?_
    obtain ⟨h527, hv⟩ := hv
    refine mm_aald (D := G.1) hx hb hK hP (t := 11) (by decide) rfl rfl h527 (r := (18 + (1 : Int32).toNatClampNeg)) (rfl) d_X6_count_109 ?_
    refine mm_gi (D := G.1) (C := RX4) (T := TX4) (N0 := 3) hx hb hg in_X4 hown hK hP (t := (18 + (1 : Int32).toNatClampNeg)) (ly_N_TB (mm_lt h527)) (ly_TB (mm_lt h527)) rfl 2 (by decide) (hg _ k_215) (fun _ h9 => h9) rfl d_X6_count_110 ?_
    exact W.iret (v := (I (18 + (1 : Int32).toNatClampNeg) 2)) hx hb hr (fun t ht hW => ⟨⟨(I (18 + (1 : Int32).toNatClampNeg) 2), (I, L), rfl, hv, mm_mv ht hP⟩, hS.F ht⟩) hS.2.2 d_X6_count_113
  · have he : x1 = 7 := he
    have hv := hv.2.2.2.2.2.2.2.2 he
    refine lv_tableIn (tgt := 114) hx hb d_X6_count_1 (by rw [he]; decide) (by rw [he]; decide) (by rw [he]; rfl) (by decide) ?_
    refine lv_aload_n hx hb d_X6_count_114 rfl (lv_at hl 0 rfl) ?_
    refine mm_gr (D := G.1) (C := RX6) (T := TX6) (N0 := 3) (r := 1) hx hb hg in_X6 hown hK hP (t := 0) (by decide) rfl rfl 0 (by decide) (hg _ k_34) (fun _ h9 => h9) rfl d_X6_count_115 ?_
    refine va_calli (va_runV (As := []) (rest := []) ⟨hx, hb, hml, hown, hg⟩ (m_X2_definitionBits l G  I L _  hv) (cwV 0 hg (mm_gV k_216 k_217 k_218 k_70 kc_X2_definitionBits) rfl rfl rfl (by decide +kernel) ⟨Nat.le_of_ble_eq_true rfl, Nat.le_of_ble_eq_true rfl⟩) ⟨mm_blind, mm_recv hK hP (t := 1) (by decide) rfl rfl, fun U hU hW => mm_call hP hK hD hC hU hS hW⟩ rfl rfl hl.1 rfl (lv_room (Nat.le_of_ble_eq_true rfl)) d_X6_count_118 ⟨Nat.zero_le _, Nat.zero_le _⟩) hS (fun q _ h => h) (fun q h => h) (fun r530 u t H locs ht hvm hv hP hz1 hk1 hS => ?_)
    obtain ⟨I528, L529⟩ := u
    dsimp only at hv hP
    rw [ht] at hP
    have hD : mm_DW G I528 L529 := mm_D_any hD
    exact W.iret (v := r530) hx hb hr (fun t ht hW => ⟨⟨r530, (I528, L529), rfl, hv, mm_mv ht hP⟩, hS.F ht⟩) hS.2.2 d_X6_count_121
abbrev vc_X6_count (x1 : Int32) (I : mm_I) (L : mm_L) (Q : Int32 → mm_I → mm_L → Prop) : Prop := vc_X6_count_0 x1 I L Q
set_option maxHeartbeats 4000000 in
set_option maxRecDepth 100000 in
theorem m_X6_count (l : Launch) (G : mm_G) (x1 : Int32) (I : mm_I) (L : mm_L) (Q : Int32 → mm_I → mm_L → Prop)  (hv : vc_X6_count x1 I L Q) : Met l y_X6_count w_X6_count rm_X6_count (mm_pre G [.ref (G.2.2.1 0), .int x1] I L) (mm_qi G Q) 0 0 G.2.2.2.1 := by
  refine Met.ofW (cc := c_X6_count) (maxL := 2) (ret := (some .int)) (by decide) rfl ?_
  intro p e s m args below meth c s₁ B hml hw
  obtain ⟨rfl, hP, hK, hD, hC⟩ := hw
  have hts := atoms_spec (ws := w_X6_count) B.pre
  have hown : s.vm.findClass RX6 = some m.cls := findClass_of_methodNamed B.named
  have hl := lv_entry ([.ref (G.2.2.1 0), .int x1]) (n := 2) (Nat.le_of_ble_eq_true rfl)
  rw [lg_entry_eq]
  generalize (lg_sl ([.ref (G.2.2.1 0), .int x1]) ++ List.replicate (2 - (lg_sl ([.ref (G.2.2.1 0), .int x1])).length) Slot.unset).toArray = ls at hl ⊢
  have hl : lv_has ls 2 [(0, .ref (G.2.2.1 0)), (1, .int x1)] := hl
  exact w_X6_count_0 ⟨B.exec, B.bytes, B.returns, B.notSynchronized, hml, hown, fun w h => hts w (List.mem_cons_of_mem _ h), hK, hC⟩ x1 I L Q  hv hP hD va_S.rf hl
