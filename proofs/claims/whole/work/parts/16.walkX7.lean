abbrev rm_X7_person : Room := { frames := 4, cells := 0, slots := 0, locals := 99 }
def vc_X7_person_33 : Nat → Int32 → Int32 → Int32 → mm_I → mm_L → (mm_I → mm_L → Prop) → (Int32 → Int32 → mm_I → mm_L → Prop) → Prop
  | 0, _, _, _, _, _, _, _ => False
  | n9 + 1, x1, x2, x3, I, L, Q, K => ((I 36 0) ≤ x3 → K x1 x2 I L) ∧ (¬ (I 36 0) ≤ x3 → vc_X7_workOut x1 x3 I L (fun r742 I740 L741 => vp_in x3 70 ∧ vc_X7_person_33 n9 x1 x2 (x3 + 1) I740 (mm_uL L741 54 x3.toNatClampNeg r742) Q K))
def vc_X7_person_25 : Nat → Int32 → Int32 → mm_I → mm_L → (mm_I → mm_L → Prop) → Prop
  | 0, _, _, _, _, _ => False
  | n9 + 1, x1, x2, I, L, Q => (8 < x2 → Q I L) ∧ (¬ 8 < x2 → ∃ n, vc_X7_person_33 n x1 x2 0 I L Q (fun x1 x2 I L => (8 ≤ x2 → vc_X7_person_25 n9 x1 (x2 + 1) I L Q) ∧ (¬ 8 ≤ x2 → vp_in x2 8 ∧ ((I 43 x2.toNatClampNeg) < 0 → vc_X7_person_25 n9 x1 (x2 + 1) I L Q) ∧ (¬ (I 43 x2.toNatClampNeg) < 0 → vp_in x2 8 ∧ vp_in (I 43 x2.toNatClampNeg) 70 ∧ vp_in x2 8 ∧ vc_X7_person_25 n9 x1 (x2 + 1) I (mm_uL L 55 x2.toNatClampNeg (L 54 ((I 43 x2.toNatClampNeg)).toNatClampNeg)) Q))))
def vc_X7_person_2 : Nat → Int32 → Int32 → mm_I → mm_L → (mm_I → mm_L → Prop) → Prop
  | 0, _, _, _, _, _ => False
  | n9 + 1, x1, x2, I, L, Q => (8 ≤ x2 → ∃ n, vc_X7_person_25 n x1 0 I L Q) ∧ (¬ 8 ≤ x2 → vp_in x2 8 ∧ vc_X7_person_2 n9 x1 (x2 + 1) I (mm_uL L 55 x2.toNatClampNeg 1000000000001) Q)
def vc_X7_person_0 (x1 : Int32) (I : mm_I) (L : mm_L) (Q : mm_I → mm_L → Prop) : Prop :=
  ∃ n, vc_X7_person_2 n x1 0 I L Q
set_option maxHeartbeats 4000000 in
set_option maxRecDepth 100000 in
theorem w_X7_person_33 {p : Program} {l : Launch} {e : Env} {s : State} {m : MethodId} {args : Array Value} {below : List Frame} {meth : Method} {c : Code} {G : mm_G} (hcx : mm_cx c_X7_person none 4 RX7 G p s m args meth c) (Q : mm_I → mm_L → Prop) (K : Int32 → Int32 → mm_I → mm_L → Prop) : ∀ (n9 : Nat) (x1 : Int32) (x2 : Int32) (x3 : Int32) (I : mm_I) (L : mm_L)  (H : Heap) (locs : List Loc) (ls : Array Slot), vc_X7_person_33 n9 x1 x2 x3 I L Q K → mm_PW G I L H → mm_DW G I L → va_S G.2.2.2.1 s.heap H locs → lv_has ls 4 [(0, .ref (G.2.2.1 36)), (1, .int x1), (2, .int x2), (3, .int x3)] → (∀ (x1 : Int32) (x2 : Int32) (I : mm_I) (L : mm_L)  (H : Heap) (locs : List Loc) (ls : Array Slot), K x1 x2 I L → mm_PW G I L H → mm_DW G I L → va_S G.2.2.2.1 s.heap H locs → lv_has ls 4 [(0, .ref (G.2.2.1 36)), (1, .int x1), (2, .int x2)] → W p l e (headSpec w_X7_person rm_X7_person).room s m args below meth c H locs 0 0 (MQ below (mm_qv G Q) args s 0 0 G.2.2.2.1) (F0 m 59 ls [])) → W p l e (headSpec w_X7_person rm_X7_person).room s m args below meth c H locs 0 0 (MQ below (mm_qv G Q) args s 0 0 G.2.2.2.1) (F0 m 33 ls []) := by
  obtain ⟨hx, hb, hr, hlocks, hml, hown, hg, hK, hC⟩ := id hcx
  intro n9
  induction n9 with
  | zero => intro x1 x2 x3 I L H locs ls hv hP hD hS hl kk; exact hv.elim
  | succ n9 ih =>
    intro x1 x2 x3 I L H locs ls hv hP hD hS hl kk
    rw [vc_X7_person_33] at hv
    refine lv_iload_n hx hb d_X7_person_33 rfl (lv_at hl 3 rfl) ?_
    refine lv_aload_n hx hb d_X7_person_34 rfl (lv_at hl 0 rfl) ?_
    refine mm_gi (D := G.1) (C := RX7) (T := TX7) (N0 := 21) hx hb hg in_X7 hown hK hP (t := 36) (by decide) rfl rfl 0 (by decide) (hg _ k_219) (fun _ h9 => h9) rfl d_X7_person_35 ?_
    refine lv_icmp_ge (tgt := 59) hx hb d_X7_person_38 (by decide) (fun hc => ?_) (fun hc => ?_)
    · have hv := hv.1 hc
      exact kk x1 x2 I L  H locs ls hv hP hD hS (lv_sub hl [0, 1, 2] rfl)
    · have hv := hv.2 hc
      refine lv_aload_n hx hb d_X7_person_41 rfl (lv_at hl 0 rfl) ?_
      refine mm_gr (D := G.1) (C := RX7) (T := TX7) (N0 := 21) (r := 54) hx hb hg in_X7 hown hK hP (t := 36) (by decide) rfl rfl 19 (by decide) (hg _ k_264) (fun _ h9 => h9) rfl d_X7_person_42 ?_
      refine lv_iload_n hx hb d_X7_person_45 rfl (lv_at hl 3 rfl) ?_
      refine lv_aload_n hx hb d_X7_person_46 rfl (lv_at hl 0 rfl) ?_
      refine lv_iload_n hx hb d_X7_person_47 rfl (lv_at hl 1 rfl) ?_
      refine lv_iload_n hx hb d_X7_person_48 rfl (lv_at hl 3 rfl) ?_
      refine va_calll (va_runV (As := [.int x1, .int x3]) (rest := [.int x3, .ref (G.2.2.1 54)]) ⟨hx, hb, hml, hown, hg⟩ (m_X7_workOut l G x1 x3 I L _  hv) (cwV 2 hg (mm_gV k_281 k_282 k_283 k_223 kc_X7_workOut) rfl rfl rfl (by decide +kernel) ⟨Nat.le_of_ble_eq_true rfl, Nat.le_of_ble_eq_true rfl⟩) ⟨mm_blind, mm_recv hK hP (t := 36) (by decide) rfl rfl, fun U hU hW => mm_call hP hK hD hC hU hS hW⟩ rfl rfl hl.1 rfl (lv_room (Nat.le_of_ble_eq_true rfl)) d_X7_person_49 ⟨Nat.zero_le _, Nat.zero_le _⟩) hS (fun q _ h => h) (fun q h => h) (fun r742 u t H locs ht hvm hv hP hz1 hk1 hS => ?_)
      obtain ⟨I740, L741⟩ := u
      dsimp only at hv hP
      rw [ht] at hP
      have hD : mm_DW G I740 L741 := mm_D_any hD
      obtain ⟨h743, hv⟩ := hv
      refine mm_last (D := G.1) hx hb hK hP hD hS (t := 54) (by decide) rfl rfl h743 d_X7_person_52 (fun H locs hP hD hS => ?_)
      refine lv_iinc (v := (x3 + 1)) (lv' := [(3, .int (x3 + 1)), (0, .ref (G.2.2.1 36)), (1, .int x1), (2, .int x2)]) hx hb d_X7_person_53 hl (k := 3) rfl (by rfl) (by decide) rfl (fun ls hl => ?_)
      refine lv_goto (tgt := 33) hx hb d_X7_person_56 (by decide) ?_
      exact ih x1 x2 (x3 + 1) I740 (mm_uL L741 54 x3.toNatClampNeg r742)  H locs ls hv hP hD hS (lv_sub hl [1, 2, 3, 0] rfl) kk
set_option maxHeartbeats 4000000 in
set_option maxRecDepth 100000 in
theorem w_X7_person_25 {p : Program} {l : Launch} {e : Env} {s : State} {m : MethodId} {args : Array Value} {below : List Frame} {meth : Method} {c : Code} {G : mm_G} (hcx : mm_cx c_X7_person none 4 RX7 G p s m args meth c) (Q : mm_I → mm_L → Prop) : ∀ (n9 : Nat) (x1 : Int32) (x2 : Int32) (I : mm_I) (L : mm_L)  (H : Heap) (locs : List Loc) (ls : Array Slot), vc_X7_person_25 n9 x1 x2 I L Q → mm_PW G I L H → mm_DW G I L → va_S G.2.2.2.1 s.heap H locs → lv_has ls 4 [(0, .ref (G.2.2.1 36)), (1, .int x1), (2, .int x2)] → W p l e (headSpec w_X7_person rm_X7_person).room s m args below meth c H locs 0 0 (MQ below (mm_qv G Q) args s 0 0 G.2.2.2.1) (F0 m 25 ls []) := by
  obtain ⟨hx, hb, hr, hlocks, hml, hown, hg, hK, hC⟩ := id hcx
  intro n9
  induction n9 with
  | zero => intro x1 x2 I L H locs ls hv hP hD hS hl; exact hv.elim
  | succ n9 ih =>
    intro x1 x2 I L H locs ls hv hP hD hS hl
    rw [vc_X7_person_25] at hv
    refine lv_iload_n hx hb d_X7_person_25 rfl (lv_at hl 2 rfl) ?_
    refine lv_bipush (v := 8) hx hb d_X7_person_26 (by decide) ?_
    refine lv_icmp_gt (tgt := 97) hx hb d_X7_person_28 (by decide) (fun hc => ?_) (fun hc => ?_)
    · have hv := hv.1 hc
      exact W.vret hx hb hr (fun t ht hW => ⟨⟨(I, L), rfl, hv, mm_mv ht hP⟩, hS.F ht⟩) hS.2.2 d_X7_person_97
    · have hv := hv.2 hc
      refine lv_iconst (v := 0) hx hb d_X7_person_31 (by decide) ?_
      refine lv_istore_n (lv' := [(3, .int 0), (0, .ref (G.2.2.1 36)), (1, .int x1), (2, .int x2)]) hx hb d_X7_person_32 rfl hl (by decide) rfl (fun ls hl => ?_)
      obtain ⟨n, hv⟩ := hv
      refine w_X7_person_33 hcx Q _ n x1 x2 0 I L  H locs ls hv hP hD hS (lv_sub hl [1, 2, 3, 0] rfl) (fun x1 x2 I L H locs ls hv hP hD hS hl => ?_)
      try dsimp only at hv
      refine lv_iload_n hx hb d_X7_person_59 rfl (lv_at hl 2 rfl) ?_
      refine lv_bipush (v := 8) hx hb d_X7_person_60 (by decide) ?_
      refine lv_icmp_ge (tgt := 91) hx hb d_X7_person_62 (by decide) (fun hc => ?_) (fun hc => ?_)
      · have hv := hv.1 hc
        refine lv_iinc (v := (x2 + 1)) (lv' := [(2, .int (x2 + 1)), (0, .ref (G.2.2.1 36)), (1, .int x1)]) hx hb d_X7_person_91 hl (k := 2) rfl (by rfl) (by decide) rfl (fun ls hl => ?_)
        refine lv_goto (tgt := 25) hx hb d_X7_person_94 (by decide) ?_
        exact ih x1 (x2 + 1) I L  H locs ls hv hP hD hS (lv_sub hl [1, 2, 0] rfl)
      · have hv := hv.2 hc
        refine lv_aload_n hx hb d_X7_person_65 rfl (lv_at hl 0 rfl) ?_
        refine mm_gr (D := G.1) (C := RX7) (T := TX7) (N0 := 21) (r := 43) hx hb hg in_X7 hown hK hP (t := 36) (by decide) rfl rfl 8 (by decide) (hg _ k_242) (fun _ h9 => h9) rfl d_X7_person_66 ?_
        refine lv_iload_n hx hb d_X7_person_69 rfl (lv_at hl 2 rfl) ?_
        obtain ⟨h736, hv⟩ := hv
        refine mm_iald (D := G.1) hx hb hK hP (t := 43) (by decide) rfl rfl h736 d_X7_person_70 ?_
        refine lv_if_lt (tgt := 91) hx hb d_X7_person_71 (by decide) (fun hc => ?_) (fun hc => ?_)
        · have hv := hv.1 hc
          refine lv_iinc (v := (x2 + 1)) (lv' := [(2, .int (x2 + 1)), (0, .ref (G.2.2.1 36)), (1, .int x1)]) hx hb d_X7_person_91 hl (k := 2) rfl (by rfl) (by decide) rfl (fun ls hl => ?_)
          refine lv_goto (tgt := 25) hx hb d_X7_person_94 (by decide) ?_
          exact ih x1 (x2 + 1) I L  H locs ls hv hP hD hS (lv_sub hl [1, 2, 0] rfl)
        · have hv := hv.2 hc
          refine lv_aload_n hx hb d_X7_person_74 rfl (lv_at hl 0 rfl) ?_
          refine mm_gr (D := G.1) (C := RX7) (T := TX7) (N0 := 21) (r := 55) hx hb hg in_X7 hown hK hP (t := 36) (by decide) rfl rfl 20 (by decide) (hg _ k_273) (fun _ h9 => h9) rfl d_X7_person_75 ?_
          refine lv_iload_n hx hb d_X7_person_78 rfl (lv_at hl 2 rfl) ?_
          refine lv_aload_n hx hb d_X7_person_79 rfl (lv_at hl 0 rfl) ?_
          refine mm_gr (D := G.1) (C := RX7) (T := TX7) (N0 := 21) (r := 54) hx hb hg in_X7 hown hK hP (t := 36) (by decide) rfl rfl 19 (by decide) (hg _ k_264) (fun _ h9 => h9) rfl d_X7_person_80 ?_
          refine lv_aload_n hx hb d_X7_person_83 rfl (lv_at hl 0 rfl) ?_
          refine mm_gr (D := G.1) (C := RX7) (T := TX7) (N0 := 21) (r := 43) hx hb hg in_X7 hown hK hP (t := 36) (by decide) rfl rfl 8 (by decide) (hg _ k_242) (fun _ h9 => h9) rfl d_X7_person_84 ?_
          refine lv_iload_n hx hb d_X7_person_87 rfl (lv_at hl 2 rfl) ?_
          obtain ⟨h737, hv⟩ := hv
          refine mm_iald (D := G.1) hx hb hK hP (t := 43) (by decide) rfl rfl h737 d_X7_person_88 ?_
          obtain ⟨h738, hv⟩ := hv
          refine mm_lald (D := G.1) hx hb hK hP (t := 54) (by decide) rfl rfl h738 d_X7_person_89 ?_
          obtain ⟨h739, hv⟩ := hv
          refine mm_last (D := G.1) hx hb hK hP hD hS (t := 55) (by decide) rfl rfl h739 d_X7_person_90 (fun H locs hP hD hS => ?_)
          refine lv_iinc (v := (x2 + 1)) (lv' := [(2, .int (x2 + 1)), (0, .ref (G.2.2.1 36)), (1, .int x1)]) hx hb d_X7_person_91 hl (k := 2) rfl (by rfl) (by decide) rfl (fun ls hl => ?_)
          refine lv_goto (tgt := 25) hx hb d_X7_person_94 (by decide) ?_
          exact ih x1 (x2 + 1) I (mm_uL L 55 x2.toNatClampNeg (L 54 ((I 43 x2.toNatClampNeg)).toNatClampNeg))  H locs ls hv hP hD hS (lv_sub hl [1, 2, 0] rfl)
set_option maxHeartbeats 4000000 in
set_option maxRecDepth 100000 in
theorem w_X7_person_2 {p : Program} {l : Launch} {e : Env} {s : State} {m : MethodId} {args : Array Value} {below : List Frame} {meth : Method} {c : Code} {G : mm_G} (hcx : mm_cx c_X7_person none 4 RX7 G p s m args meth c) (Q : mm_I → mm_L → Prop) : ∀ (n9 : Nat) (x1 : Int32) (x2 : Int32) (I : mm_I) (L : mm_L)  (H : Heap) (locs : List Loc) (ls : Array Slot), vc_X7_person_2 n9 x1 x2 I L Q → mm_PW G I L H → mm_DW G I L → va_S G.2.2.2.1 s.heap H locs → lv_has ls 4 [(0, .ref (G.2.2.1 36)), (1, .int x1), (2, .int x2)] → W p l e (headSpec w_X7_person rm_X7_person).room s m args below meth c H locs 0 0 (MQ below (mm_qv G Q) args s 0 0 G.2.2.2.1) (F0 m 2 ls []) := by
  obtain ⟨hx, hb, hr, hlocks, hml, hown, hg, hK, hC⟩ := id hcx
  intro n9
  induction n9 with
  | zero => intro x1 x2 I L H locs ls hv hP hD hS hl; exact hv.elim
  | succ n9 ih =>
    intro x1 x2 I L H locs ls hv hP hD hS hl
    rw [vc_X7_person_2] at hv
    refine lv_iload_n hx hb d_X7_person_2 rfl (lv_at hl 2 rfl) ?_
    refine lv_bipush (v := 8) hx hb d_X7_person_3 (by decide) ?_
    refine lv_icmp_ge (tgt := 23) hx hb d_X7_person_5 (by decide) (fun hc => ?_) (fun hc => ?_)
    · have hv := hv.1 hc
      refine lv_iconst (v := 0) hx hb d_X7_person_23 (by decide) ?_
      refine lv_istore_n (lv' := [(2, .int 0), (0, .ref (G.2.2.1 36)), (1, .int x1)]) hx hb d_X7_person_24 rfl hl (by decide) rfl (fun ls hl => ?_)
      obtain ⟨n, hv⟩ := hv
      exact w_X7_person_25 hcx Q n x1 0 I L  H locs ls hv hP hD hS (lv_sub hl [1, 2, 0] rfl)
    · have hv := hv.2 hc
      refine lv_aload_n hx hb d_X7_person_8 rfl (lv_at hl 0 rfl) ?_
      refine mm_gr (D := G.1) (C := RX7) (T := TX7) (N0 := 21) (r := 55) hx hb hg in_X7 hown hK hP (t := 36) (by decide) rfl rfl 20 (by decide) (hg _ k_273) (fun _ h9 => h9) rfl d_X7_person_9 ?_
      refine lv_iload_n hx hb d_X7_person_12 rfl (lv_at hl 2 rfl) ?_
      refine lv_ldc2 (v := 1000000000001) hx hb hown (hg _ k_254) d_X7_person_13 ?_
      obtain ⟨h735, hv⟩ := hv
      refine mm_last (D := G.1) hx hb hK hP hD hS (t := 55) (by decide) rfl rfl h735 d_X7_person_16 (fun H locs hP hD hS => ?_)
      refine lv_iinc (v := (x2 + 1)) (lv' := [(2, .int (x2 + 1)), (0, .ref (G.2.2.1 36)), (1, .int x1)]) hx hb d_X7_person_17 hl (k := 2) rfl (by rfl) (by decide) rfl (fun ls hl => ?_)
      refine lv_goto (tgt := 2) hx hb d_X7_person_20 (by decide) ?_
      exact ih x1 (x2 + 1) I (mm_uL L 55 x2.toNatClampNeg 1000000000001)  H locs ls hv hP hD hS (lv_sub hl [1, 2, 0] rfl)
set_option maxHeartbeats 4000000 in
set_option maxRecDepth 100000 in
theorem w_X7_person_0 {p : Program} {l : Launch} {e : Env} {s : State} {m : MethodId} {args : Array Value} {below : List Frame} {meth : Method} {c : Code} {G : mm_G} (hcx : mm_cx c_X7_person none 4 RX7 G p s m args meth c) (x1 : Int32) (I : mm_I) (L : mm_L) (Q : mm_I → mm_L → Prop)  (hv : vc_X7_person_0 x1 I L Q) {H : Heap} {locs : List Loc} (hP : mm_PW G I L H) (hD : mm_DW G I L) (hS : va_S G.2.2.2.1 s.heap H locs) {ls : Array Slot} (hl : lv_has ls 4 [(0, .ref (G.2.2.1 36)), (1, .int x1)]) : W p l e (headSpec w_X7_person rm_X7_person).room s m args below meth c H locs 0 0 (MQ below (mm_qv G Q) args s 0 0 G.2.2.2.1) (F0 m 0 ls []) := by
  obtain ⟨hx, hb, hr, hlocks, hml, hown, hg, hK, hC⟩ := id hcx
  unfold vc_X7_person_0 at hv
  refine lv_iconst (v := 0) hx hb d_X7_person_0 (by decide) ?_
  refine lv_istore_n (lv' := [(2, .int 0), (0, .ref (G.2.2.1 36)), (1, .int x1)]) hx hb d_X7_person_1 rfl hl (by decide) rfl (fun ls hl => ?_)
  obtain ⟨n, hv⟩ := hv
  exact w_X7_person_2 hcx Q n x1 0 I L  H locs ls hv hP hD hS (lv_sub hl [1, 2, 0] rfl)
abbrev vc_X7_person (x1 : Int32) (I : mm_I) (L : mm_L) (Q : mm_I → mm_L → Prop) : Prop := vc_X7_person_0 x1 I L Q
set_option maxHeartbeats 4000000 in
set_option maxRecDepth 100000 in
theorem m_X7_person (l : Launch) (G : mm_G) (x1 : Int32) (I : mm_I) (L : mm_L) (Q : mm_I → mm_L → Prop)  (hv : vc_X7_person x1 I L Q) : Met l y_X7_person w_X7_person rm_X7_person (mm_pre G [.ref (G.2.2.1 36), .int x1] I L) (mm_qv G Q) 0 0 G.2.2.2.1 := by
  refine Met.ofW (cc := c_X7_person) (maxL := 4) (ret := none) (by decide) rfl ?_
  intro p e s m args below meth c s₁ B hml hw
  obtain ⟨rfl, hP, hK, hD, hC⟩ := hw
  have hts := atoms_spec (ws := w_X7_person) B.pre
  have hown : s.vm.findClass RX7 = some m.cls := findClass_of_methodNamed B.named
  have hl := lv_entry ([.ref (G.2.2.1 36), .int x1]) (n := 4) (Nat.le_of_ble_eq_true rfl)
  rw [lg_entry_eq]
  generalize (lg_sl ([.ref (G.2.2.1 36), .int x1]) ++ List.replicate (4 - (lg_sl ([.ref (G.2.2.1 36), .int x1])).length) Slot.unset).toArray = ls at hl ⊢
  have hl : lv_has ls 4 [(0, .ref (G.2.2.1 36)), (1, .int x1)] := hl
  exact w_X7_person_0 ⟨B.exec, B.bytes, B.returns, B.notSynchronized, hml, hown, fun w h => hts w (List.mem_cons_of_mem _ h), hK, hC⟩ x1 I L Q  hv hP hD va_S.rf hl
abbrev rm_X7_paidWhole : Room := { frames := 1, cells := 0, slots := 0, locals := 22 }
def vc_X7_paidWhole_0 (x1 : Int32) (I : mm_I) (L : mm_L) (Q : Int32 → mm_I → mm_L → Prop) : Prop :=
  vp_in (x1 * 2) 12 ∧ vc_X7_whole (L 53 ((x1 * 2)).toNatClampNeg) I L (fun r747 I745 L746 => (r747 = 0 → Q 0 I745 L746) ∧ (¬ r747 = 0 → vp_in ((x1 * 2) + 1) 12 ∧ vc_X7_whole (L746 53 (((x1 * 2) + 1)).toNatClampNeg) I745 L746 (fun r751 I749 L750 => (r751 = 0 → Q 0 I749 L750) ∧ (¬ r751 = 0 → Q 1 I749 L750))))
set_option maxHeartbeats 4000000 in
set_option maxRecDepth 100000 in
theorem w_X7_paidWhole_0 {p : Program} {l : Launch} {e : Env} {s : State} {m : MethodId} {args : Array Value} {below : List Frame} {meth : Method} {c : Code} {G : mm_G} (hcx : mm_cx c_X7_paidWhole (some .boolean) 2 RX7 G p s m args meth c) (x1 : Int32) (I : mm_I) (L : mm_L) (Q : Int32 → mm_I → mm_L → Prop)  (hv : vc_X7_paidWhole_0 x1 I L Q) {H : Heap} {locs : List Loc} (hP : mm_PW G I L H) (hD : mm_DW G I L) (hS : va_S G.2.2.2.1 s.heap H locs) {ls : Array Slot} (hl : lv_has ls 2 [(0, .ref (G.2.2.1 36)), (1, .int x1)]) : W p l e (headSpec w_X7_paidWhole rm_X7_paidWhole).room s m args below meth c H locs 0 0 (MQ below (mm_qi G Q) args s 0 0 G.2.2.2.1) (F0 m 0 ls []) := by
  obtain ⟨hx, hb, hr, hlocks, hml, hown, hg, hK, hC⟩ := id hcx
  unfold vc_X7_paidWhole_0 at hv
  refine lv_aload_n hx hb d_X7_paidWhole_0 rfl (lv_at hl 0 rfl) ?_
  refine lv_aload_n hx hb d_X7_paidWhole_1 rfl (lv_at hl 0 rfl) ?_
  refine mm_gr (D := G.1) (C := RX7) (T := TX7) (N0 := 21) (r := 53) hx hb hg in_X7 hown hK hP (t := 36) (by decide) rfl rfl 18 (by decide) (hg _ k_272) (fun _ h9 => h9) rfl d_X7_paidWhole_2 ?_
  refine lv_iload_n hx hb d_X7_paidWhole_5 rfl (lv_at hl 1 rfl) ?_
  refine lv_iconst (v := 2) hx hb d_X7_paidWhole_6 (by decide) ?_
  refine lv_imul hx hb d_X7_paidWhole_7 ?_
  obtain ⟨h744, hv⟩ := hv
  refine mm_lald (D := G.1) hx hb hK hP (t := 53) (by decide) rfl rfl h744 d_X7_paidWhole_8 ?_
  refine va_calli (va_runV (As := [.long (L 53 ((x1 * 2)).toNatClampNeg)]) (rest := []) ⟨hx, hb, hml, hown, hg⟩ (m_X7_whole l G (L 53 ((x1 * 2)).toNatClampNeg) I L _  hv) (cwV 1 hg (mm_gV k_251 k_252 k_253 k_223 kc_X7_whole) rfl rfl rfl (by decide +kernel) ⟨Nat.le_of_ble_eq_true rfl, Nat.le_of_ble_eq_true rfl⟩) ⟨mm_blind, mm_recv hK hP (t := 36) (by decide) rfl rfl, fun U hU hW => mm_call hP hK hD hC hU hS hW⟩ rfl rfl hl.1 rfl (lv_room (Nat.le_of_ble_eq_true rfl)) d_X7_paidWhole_9 ⟨Nat.zero_le _, Nat.zero_le _⟩) hS (fun q _ h => h) (fun q h => h) (fun r747 u t H locs ht hvm hv hP hz1 hk1 hS => ?_)
  obtain ⟨I745, L746⟩ := u
  dsimp only at hv hP
  rw [ht] at hP
  have hD : mm_DW G I745 L746 := mm_D_any hD
  refine lv_if_eq (tgt := 36) hx hb d_X7_paidWhole_12 (by decide) (fun hc => ?_) (fun hc => ?_)
  · have hv := hv.1 hc
    refine lv_iconst (v := 0) hx hb d_X7_paidWhole_36 (by decide) ?_
    exact W.zret (v := 0) (ty := .boolean) hx hb hr (by decide) (fun t ht hW => ⟨⟨0, (I745, L746), rfl, hv, mm_mv ht hP⟩, hS.F ht⟩) hS.2.2 d_X7_paidWhole_37
  · have hv := hv.2 hc
    refine lv_aload_n hx hb d_X7_paidWhole_15 rfl (lv_at hl 0 rfl) ?_
    refine lv_aload_n hx hb d_X7_paidWhole_16 rfl (lv_at hl 0 rfl) ?_
    refine mm_gr (D := G.1) (C := RX7) (T := TX7) (N0 := 21) (r := 53) hx hb hg in_X7 hown hK hP (t := 36) (by decide) rfl rfl 18 (by decide) (hg _ k_272) (fun _ h9 => h9) rfl d_X7_paidWhole_17 ?_
    refine lv_iload_n hx hb d_X7_paidWhole_20 rfl (lv_at hl 1 rfl) ?_
    refine lv_iconst (v := 2) hx hb d_X7_paidWhole_21 (by decide) ?_
    refine lv_imul hx hb d_X7_paidWhole_22 ?_
    refine lv_iconst (v := 1) hx hb d_X7_paidWhole_23 (by decide) ?_
    refine lv_iadd hx hb d_X7_paidWhole_24 ?_
    obtain ⟨h748, hv⟩ := hv
    refine mm_lald (D := G.1) hx hb hK hP (t := 53) (by decide) rfl rfl h748 d_X7_paidWhole_25 ?_
    refine va_calli (va_runV (As := [.long (L746 53 (((x1 * 2) + 1)).toNatClampNeg)]) (rest := []) ⟨hx, hb, hml, hown, hg⟩ (m_X7_whole l G (L746 53 (((x1 * 2) + 1)).toNatClampNeg) I745 L746 _  hv) (cwV 1 hg (mm_gV k_251 k_252 k_253 k_223 kc_X7_whole) rfl rfl rfl (by decide +kernel) ⟨Nat.le_of_ble_eq_true rfl, Nat.le_of_ble_eq_true rfl⟩) ⟨mm_blind, mm_recv hK hP (t := 36) (by decide) rfl rfl, fun U hU hW => mm_call hP hK hD hC hU hS hW⟩ rfl rfl hl.1 rfl (lv_room (Nat.le_of_ble_eq_true rfl)) d_X7_paidWhole_26 ⟨Nat.zero_le _, Nat.zero_le _⟩) hS (fun q _ h => h) (fun q h => h) (fun r751 u t H locs ht hvm hv hP hz1 hk1 hS => ?_)
    obtain ⟨I749, L750⟩ := u
    dsimp only at hv hP
    rw [ht] at hP
    have hD : mm_DW G I749 L750 := mm_D_any hD
    refine lv_if_eq (tgt := 36) hx hb d_X7_paidWhole_29 (by decide) (fun hc => ?_) (fun hc => ?_)
    · have hv := hv.1 hc
      refine lv_iconst (v := 0) hx hb d_X7_paidWhole_36 (by decide) ?_
      exact W.zret (v := 0) (ty := .boolean) hx hb hr (by decide) (fun t ht hW => ⟨⟨0, (I749, L750), rfl, hv, mm_mv ht hP⟩, hS.F ht⟩) hS.2.2 d_X7_paidWhole_37
    · have hv := hv.2 hc
      refine lv_iconst (v := 1) hx hb d_X7_paidWhole_32 (by decide) ?_
      refine lv_goto (tgt := 37) hx hb d_X7_paidWhole_33 (by decide) ?_
      exact W.zret (v := 1) (ty := .boolean) hx hb hr (by decide) (fun t ht hW => ⟨⟨1, (I749, L750), rfl, hv, mm_mv ht hP⟩, hS.F ht⟩) hS.2.2 d_X7_paidWhole_37
abbrev vc_X7_paidWhole (x1 : Int32) (I : mm_I) (L : mm_L) (Q : Int32 → mm_I → mm_L → Prop) : Prop := vc_X7_paidWhole_0 x1 I L Q
set_option maxHeartbeats 4000000 in
set_option maxRecDepth 100000 in
theorem m_X7_paidWhole (l : Launch) (G : mm_G) (x1 : Int32) (I : mm_I) (L : mm_L) (Q : Int32 → mm_I → mm_L → Prop)  (hv : vc_X7_paidWhole x1 I L Q) : Met l y_X7_paidWhole w_X7_paidWhole rm_X7_paidWhole (mm_pre G [.ref (G.2.2.1 36), .int x1] I L) (mm_qi G Q) 0 0 G.2.2.2.1 := by
  refine Met.ofW (cc := c_X7_paidWhole) (maxL := 2) (ret := (some .boolean)) (by decide) rfl ?_
  intro p e s m args below meth c s₁ B hml hw
  obtain ⟨rfl, hP, hK, hD, hC⟩ := hw
  have hts := atoms_spec (ws := w_X7_paidWhole) B.pre
  have hown : s.vm.findClass RX7 = some m.cls := findClass_of_methodNamed B.named
  have hl := lv_entry ([.ref (G.2.2.1 36), .int x1]) (n := 2) (Nat.le_of_ble_eq_true rfl)
  rw [lg_entry_eq]
  generalize (lg_sl ([.ref (G.2.2.1 36), .int x1]) ++ List.replicate (2 - (lg_sl ([.ref (G.2.2.1 36), .int x1])).length) Slot.unset).toArray = ls at hl ⊢
  have hl : lv_has ls 2 [(0, .ref (G.2.2.1 36)), (1, .int x1)] := hl
  exact w_X7_paidWhole_0 ⟨B.exec, B.bytes, B.returns, B.notSynchronized, hml, hown, fun w h => hts w (List.mem_cons_of_mem _ h), hK, hC⟩ x1 I L Q  hv hP hD va_S.rf hl
abbrev rm_X7_value : Room := { frames := 5, cells := 0, slots := 0, locals := 122 }
def vc_X7_value_0 (x1 : Int32) (x2 : Int32) (I : mm_I) (L : mm_L) (Q : Int64 → mm_I → mm_L → Prop) : Prop :=
  vc_X7_out x1 0 5 I L (fun r754 I752 L753 => (¬ r754 = 0 → Q 1000000000000 I752 L753) ∧ (r754 = 0 → vc_X7_isNode x2 I752 L753 (fun r757 I755 L756 => (r757 = 0 → Q 1000000000000 I755 L756) ∧ (¬ r757 = 0 → vc_X7_paidWhole x1 I755 L756 (fun r760 I758 L759 => (¬ r760 = 0 → vc_X7_person x1 I758 L759 (fun I761 L762 => vp_in x2 70 ∧ Q (L762 54 x2.toNatClampNeg) I761 L762)) ∧ (r760 = 0 → Q 1000000000000 I758 L759))))))
set_option maxHeartbeats 4000000 in
set_option maxRecDepth 100000 in
theorem w_X7_value_0 {p : Program} {l : Launch} {e : Env} {s : State} {m : MethodId} {args : Array Value} {below : List Frame} {meth : Method} {c : Code} {G : mm_G} (hcx : mm_cx c_X7_value (some .long) 3 RX7 G p s m args meth c) (x1 : Int32) (x2 : Int32) (I : mm_I) (L : mm_L) (Q : Int64 → mm_I → mm_L → Prop)  (hv : vc_X7_value_0 x1 x2 I L Q) {H : Heap} {locs : List Loc} (hP : mm_PW G I L H) (hD : mm_DW G I L) (hS : va_S G.2.2.2.1 s.heap H locs) {ls : Array Slot} (hl : lv_has ls 3 [(0, .ref (G.2.2.1 36)), (1, .int x1), (2, .int x2)]) : W p l e (headSpec w_X7_value rm_X7_value).room s m args below meth c H locs 0 0 (MQ below (mm_ql G Q) args s 0 0 G.2.2.2.1) (F0 m 0 ls []) := by
  obtain ⟨hx, hb, hr, hlocks, hml, hown, hg, hK, hC⟩ := id hcx
  unfold vc_X7_value_0 at hv
  refine lv_aload_n hx hb d_X7_value_0 rfl (lv_at hl 0 rfl) ?_
  refine lv_iload_n hx hb d_X7_value_1 rfl (lv_at hl 1 rfl) ?_
  refine lv_iconst (v := 0) hx hb d_X7_value_2 (by decide) ?_
  refine lv_iconst (v := 5) hx hb d_X7_value_3 (by decide) ?_
  refine va_calli (va_runV (As := [.int x1, .int 0, .int 5]) (rest := []) ⟨hx, hb, hml, hown, hg⟩ (m_X7_out l G x1 0 5 I L _  hv) (cwV 3 hg (mm_gV k_220 k_221 k_222 k_223 kc_X7_out) rfl rfl rfl (by decide +kernel) ⟨Nat.le_of_ble_eq_true rfl, Nat.le_of_ble_eq_true rfl⟩) ⟨mm_blind, mm_recv hK hP (t := 36) (by decide) rfl rfl, fun U hU hW => mm_call hP hK hD hC hU hS hW⟩ rfl rfl hl.1 rfl (lv_room (Nat.le_of_ble_eq_true rfl)) d_X7_value_4 ⟨Nat.zero_le _, Nat.zero_le _⟩) hS (fun q _ h => h) (fun q h => h) (fun r754 u t H locs ht hvm hv hP hz1 hk1 hS => ?_)
  obtain ⟨I752, L753⟩ := u
  dsimp only at hv hP
  rw [ht] at hP
  have hD : mm_DW G I752 L753 := mm_D_any hD
  refine lv_if_ne (tgt := 26) hx hb d_X7_value_7 (by decide) (fun hc => ?_) (fun hc => ?_)
  · have hv := hv.1 hc
    refine lv_ldc2 (v := 1000000000000) hx hb hown (hg _ k_284) d_X7_value_26 ?_
    exact W.lret (v := 1000000000000) hx hb hr (fun t ht hW => ⟨⟨1000000000000, (I752, L753), rfl, hv, mm_mv ht hP⟩, hS.F ht⟩) hS.2.2 d_X7_value_29
  · have hv := hv.2 hc
    refine lv_aload_n hx hb d_X7_value_10 rfl (lv_at hl 0 rfl) ?_
    refine lv_iload_n hx hb d_X7_value_11 rfl (lv_at hl 2 rfl) ?_
    refine va_calli (va_runV (As := [.int x2]) (rest := []) ⟨hx, hb, hml, hown, hg⟩ (m_X7_isNode l G x2 I752 L753 _  hv) (cwV 1 hg (mm_gV k_224 k_225 k_226 k_223 kc_X7_isNode) rfl rfl rfl (by decide +kernel) ⟨Nat.le_of_ble_eq_true rfl, Nat.le_of_ble_eq_true rfl⟩) ⟨mm_blind, mm_recv hK hP (t := 36) (by decide) rfl rfl, fun U hU hW => mm_call hP hK hD hC hU hS hW⟩ rfl rfl hl.1 rfl (lv_room (Nat.le_of_ble_eq_true rfl)) d_X7_value_12 ⟨Nat.zero_le _, Nat.zero_le _⟩) hS (fun q _ h => h) (fun q h => h) (fun r757 u t H locs ht hvm hv hP hz1 hk1 hS => ?_)
    obtain ⟨I755, L756⟩ := u
    dsimp only at hv hP
    rw [ht] at hP
    have hD : mm_DW G I755 L756 := mm_D_any hD
    refine lv_if_eq (tgt := 26) hx hb d_X7_value_15 (by decide) (fun hc => ?_) (fun hc => ?_)
    · have hv := hv.1 hc
      refine lv_ldc2 (v := 1000000000000) hx hb hown (hg _ k_284) d_X7_value_26 ?_
      exact W.lret (v := 1000000000000) hx hb hr (fun t ht hW => ⟨⟨1000000000000, (I755, L756), rfl, hv, mm_mv ht hP⟩, hS.F ht⟩) hS.2.2 d_X7_value_29
    · have hv := hv.2 hc
      refine lv_aload_n hx hb d_X7_value_18 rfl (lv_at hl 0 rfl) ?_
      refine lv_iload_n hx hb d_X7_value_19 rfl (lv_at hl 1 rfl) ?_
      refine va_calli (va_runV (As := [.int x1]) (rest := []) ⟨hx, hb, hml, hown, hg⟩ (m_X7_paidWhole l G x1 I755 L756 _  hv) (cwV 1 hg (mm_gV k_288 k_289 k_290 k_223 kc_X7_paidWhole) rfl rfl rfl (by decide +kernel) ⟨Nat.le_of_ble_eq_true rfl, Nat.le_of_ble_eq_true rfl⟩) ⟨mm_blind, mm_recv hK hP (t := 36) (by decide) rfl rfl, fun U hU hW => mm_call hP hK hD hC hU hS hW⟩ rfl rfl hl.1 rfl (lv_room (Nat.le_of_ble_eq_true rfl)) d_X7_value_20 ⟨Nat.zero_le _, Nat.zero_le _⟩) hS (fun q _ h => h) (fun q h => h) (fun r760 u t H locs ht hvm hv hP hz1 hk1 hS => ?_)
      obtain ⟨I758, L759⟩ := u
      dsimp only at hv hP
      rw [ht] at hP
      have hD : mm_DW G I758 L759 := mm_D_any hD
      refine lv_if_ne (tgt := 30) hx hb d_X7_value_23 (by decide) (fun hc => ?_) (fun hc => ?_)
      · have hv := hv.1 hc
        refine lv_aload_n hx hb d_X7_value_30 rfl (lv_at hl 0 rfl) ?_
        refine lv_iload_n hx hb d_X7_value_31 rfl (lv_at hl 1 rfl) ?_
        refine va_callv (va_runV (As := [.int x1]) (rest := []) ⟨hx, hb, hml, hown, hg⟩ (m_X7_person l G x1 I758 L759 _  hv) (cwV 1 hg (mm_gV k_285 k_286 k_287 k_223 kc_X7_person) rfl rfl rfl (by decide +kernel) ⟨Nat.le_of_ble_eq_true rfl, Nat.le_of_ble_eq_true rfl⟩) ⟨mm_blind, mm_recv hK hP (t := 36) (by decide) rfl rfl, fun U hU hW => mm_call hP hK hD hC hU hS hW⟩ rfl rfl hl.1 rfl (lv_room (Nat.le_of_ble_eq_true rfl)) d_X7_value_32 ⟨Nat.zero_le _, Nat.zero_le _⟩) hS (fun q _ h => h) (fun q h => h) (fun u t H locs ht hvm hv hP hz1 hk1 hS => ?_)
        obtain ⟨I761, L762⟩ := u
        dsimp only at hv hP
        rw [ht] at hP
        have hD : mm_DW G I761 L762 := mm_D_any hD
        refine lv_aload_n hx hb d_X7_value_35 rfl (lv_at hl 0 rfl) ?_
        refine mm_gr (D := G.1) (C := RX7) (T := TX7) (N0 := 21) (r := 54) hx hb hg in_X7 hown hK hP (t := 36) (by decide) rfl rfl 19 (by decide) (hg _ k_264) (fun _ h9 => h9) rfl d_X7_value_36 ?_
        refine lv_iload_n hx hb d_X7_value_39 rfl (lv_at hl 2 rfl) ?_
        obtain ⟨h764, hv⟩ := hv
        refine mm_lald (D := G.1) hx hb hK hP (t := 54) (by decide) rfl rfl h764 d_X7_value_40 ?_
        exact W.lret (v := (L762 54 x2.toNatClampNeg)) hx hb hr (fun t ht hW => ⟨⟨(L762 54 x2.toNatClampNeg), (I761, L762), rfl, hv, mm_mv ht hP⟩, hS.F ht⟩) hS.2.2 d_X7_value_41
      · have hv := hv.2 hc
        refine lv_ldc2 (v := 1000000000000) hx hb hown (hg _ k_284) d_X7_value_26 ?_
        exact W.lret (v := 1000000000000) hx hb hr (fun t ht hW => ⟨⟨1000000000000, (I758, L759), rfl, hv, mm_mv ht hP⟩, hS.F ht⟩) hS.2.2 d_X7_value_29
abbrev vc_X7_value (x1 : Int32) (x2 : Int32) (I : mm_I) (L : mm_L) (Q : Int64 → mm_I → mm_L → Prop) : Prop := vc_X7_value_0 x1 x2 I L Q
set_option maxHeartbeats 4000000 in
set_option maxRecDepth 100000 in
theorem m_X7_value (l : Launch) (G : mm_G) (x1 : Int32) (x2 : Int32) (I : mm_I) (L : mm_L) (Q : Int64 → mm_I → mm_L → Prop)  (hv : vc_X7_value x1 x2 I L Q) : Met l y_X7_value w_X7_value rm_X7_value (mm_pre G [.ref (G.2.2.1 36), .int x1, .int x2] I L) (mm_ql G Q) 0 0 G.2.2.2.1 := by
  refine Met.ofW (cc := c_X7_value) (maxL := 3) (ret := (some .long)) (by decide) rfl ?_
  intro p e s m args below meth c s₁ B hml hw
  obtain ⟨rfl, hP, hK, hD, hC⟩ := hw
  have hts := atoms_spec (ws := w_X7_value) B.pre
  have hown : s.vm.findClass RX7 = some m.cls := findClass_of_methodNamed B.named
  have hl := lv_entry ([.ref (G.2.2.1 36), .int x1, .int x2]) (n := 3) (Nat.le_of_ble_eq_true rfl)
  rw [lg_entry_eq]
  generalize (lg_sl ([.ref (G.2.2.1 36), .int x1, .int x2]) ++ List.replicate (3 - (lg_sl ([.ref (G.2.2.1 36), .int x1, .int x2])).length) Slot.unset).toArray = ls at hl ⊢
  have hl : lv_has ls 3 [(0, .ref (G.2.2.1 36)), (1, .int x1), (2, .int x2)] := hl
  exact w_X7_value_0 ⟨B.exec, B.bytes, B.returns, B.notSynchronized, hml, hown, fun w h => hts w (List.mem_cons_of_mem _ h), hK, hC⟩ x1 x2 I L Q  hv hP hD va_S.rf hl
abbrev rm_X7_payOne : Room := { frames := 5, cells := 0, slots := 0, locals := 122 }
def vc_X7_payOne_145 : Nat → Int32 → Int32 → Int32 → mm_I → mm_L → (Int32 → mm_I → mm_L → Prop) → Prop
  | 0, _, _, _, _, _, _ => False
  | n9 + 1, x1, x2, x3, I, L, Q => (3 ≤ x3 → vp_in ((x1 * 6) + x2) 96 ∧ vp_in (x2 * 2) 12 ∧ vp_in 0 8 ∧ vp_in (x2 * 2) 12 ∧ vp_in ((x2 * 2) + 1) 12 ∧ vp_in 1 8 ∧ vp_in ((x2 * 2) + 1) 12 ∧ Q 0 (mm_uI I 50 (((x1 * 6) + x2)).toNatClampNeg (vp_nar .boolean 1)) (mm_uL (mm_uL L 53 ((x2 * 2)).toNatClampNeg ((L 53 ((x2 * 2)).toNatClampNeg) + (L 55 (0 : Int32).toNatClampNeg))) 53 (((x2 * 2) + 1)).toNatClampNeg (((mm_uL L 53 ((x2 * 2)).toNatClampNeg ((L 53 ((x2 * 2)).toNatClampNeg) + (L 55 (0 : Int32).toNatClampNeg))) 53 (((x2 * 2) + 1)).toNatClampNeg) + ((mm_uL L 53 ((x2 * 2)).toNatClampNeg ((L 53 ((x2 * 2)).toNatClampNeg) + (L 55 (0 : Int32).toNatClampNeg))) 55 (1 : Int32).toNatClampNeg)))) ∧ (¬ 3 ≤ x3 → vp_in x3 8 ∧ vp_in ((((x1 * 6) + x2) * 3) + x3) 288 ∧ vc_X7_payOne_145 n9 x1 x2 (x3 + 1) I (mm_uL L 52 (((((x1 * 6) + x2) * 3) + x3)).toNatClampNeg (L 55 x3.toNatClampNeg)) Q)
def vc_X7_payOne_18 : Nat → Int32 → Int32 → Int32 → mm_I → mm_L → (Int32 → mm_I → mm_L → Prop) → Prop
  | 0, _, _, _, _, _, _ => False
  | n9 + 1, x1, x2, x3, I, L, Q => (3 ≤ x3 → vp_in 0 8 ∧ vp_in 1 8 ∧ vp_in 2 8 ∧ (((L 55 (0 : Int32).toNatClampNeg) - (L 55 (1 : Int32).toNatClampNeg)) = (L 55 (2 : Int32).toNatClampNeg) → vp_in (x2 * 2) 12 ∧ vp_in 0 8 ∧ vc_X7_whole ((L 53 ((x2 * 2)).toNatClampNeg) + (L 55 (0 : Int32).toNatClampNeg)) I L (fun r778 I776 L777 => (r778 = 0 → Q 6 I776 L777) ∧ (¬ r778 = 0 → vp_in ((x2 * 2) + 1) 12 ∧ vp_in 1 8 ∧ vc_X7_whole ((L777 53 (((x2 * 2) + 1)).toNatClampNeg) + (L777 55 (1 : Int32).toNatClampNeg)) I776 L777 (fun r783 I781 L782 => (¬ r783 = 0 → ∃ n, vc_X7_payOne_145 n x1 x2 0 I781 L782 Q) ∧ (r783 = 0 → Q 6 I781 L782))))) ∧ (¬ ((L 55 (0 : Int32).toNatClampNeg) - (L 55 (1 : Int32).toNatClampNeg)) = (L 55 (2 : Int32).toNatClampNeg) → Q 5 I L)) ∧ (¬ 3 ≤ x3 → vp_in x3 8 ∧ ((L 55 x3.toNatClampNeg) ≤ 1000000000100 → vp_in x3 8 ∧ (¬ (L 55 x3.toNatClampNeg) = 1000000000001 → vc_X7_payOne_18 n9 x1 x2 (x3 + 1) I L Q) ∧ ((L 55 x3.toNatClampNeg) = 1000000000001 → Q 2 I L)) ∧ (¬ (L 55 x3.toNatClampNeg) ≤ 1000000000100 → vp_in x3 8 ∧ Q (((L 55 x3.toNatClampNeg) - 1000000000100)).toInt32 I L))
def vc_X7_payOne_0 (x1 : Int32) (x2 : Int32) (I : mm_I) (L : mm_L) (Q : Int32 → mm_I → mm_L → Prop) : Prop :=
  vc_X7_paidWhole x2 I L (fun r767 I765 L766 => (¬ r767 = 0 → vc_X7_person x2 I765 L766 (fun I768 L769 => ∃ n, vc_X7_payOne_18 n x1 x2 0 I768 L769 Q)) ∧ (r767 = 0 → Q 6 I765 L766))
set_option maxHeartbeats 4000000 in
set_option maxRecDepth 100000 in
theorem w_X7_payOne_145 {p : Program} {l : Launch} {e : Env} {s : State} {m : MethodId} {args : Array Value} {below : List Frame} {meth : Method} {c : Code} {G : mm_G} (hcx : mm_cx c_X7_payOne (some .int) 4 RX7 G p s m args meth c) (Q : Int32 → mm_I → mm_L → Prop) : ∀ (n9 : Nat) (x1 : Int32) (x2 : Int32) (x3 : Int32) (I : mm_I) (L : mm_L)  (H : Heap) (locs : List Loc) (ls : Array Slot), vc_X7_payOne_145 n9 x1 x2 x3 I L Q → mm_PW G I L H → mm_DW G I L → va_S G.2.2.2.1 s.heap H locs → lv_has ls 4 [(0, .ref (G.2.2.1 36)), (1, .int x1), (2, .int x2), (3, .int x3)] → W p l e (headSpec w_X7_payOne rm_X7_payOne).room s m args below meth c H locs 0 0 (MQ below (mm_qi G Q) args s 0 0 G.2.2.2.1) (F0 m 145 ls []) := by
  obtain ⟨hx, hb, hr, hlocks, hml, hown, hg, hK, hC⟩ := id hcx
  intro n9
  induction n9 with
  | zero => intro x1 x2 x3 I L H locs ls hv hP hD hS hl; exact hv.elim
  | succ n9 ih =>
    intro x1 x2 x3 I L H locs ls hv hP hD hS hl
    rw [vc_X7_payOne_145] at hv
    refine lv_iload_n hx hb d_X7_payOne_145 rfl (lv_at hl 3 rfl) ?_
    refine lv_iconst (v := 3) hx hb d_X7_payOne_146 (by decide) ?_
    refine lv_icmp_ge (tgt := 177) hx hb d_X7_payOne_147 (by decide) (fun hc => ?_) (fun hc => ?_)
    · have hv := hv.1 hc
      refine lv_aload_n hx hb d_X7_payOne_177 rfl (lv_at hl 0 rfl) ?_
      refine mm_gr (D := G.1) (C := RX7) (T := TX7) (N0 := 21) (r := 50) hx hb hg in_X7 hown hK hP (t := 36) (by decide) rfl rfl 15 (by decide) (hg _ k_291) (fun _ h9 => h9) rfl d_X7_payOne_178 ?_
      refine lv_iload_n hx hb d_X7_payOne_181 rfl (lv_at hl 1 rfl) ?_
      refine lv_bipush (v := 6) hx hb d_X7_payOne_182 (by decide) ?_
      refine lv_imul hx hb d_X7_payOne_184 ?_
      refine lv_iload_n hx hb d_X7_payOne_185 rfl (lv_at hl 2 rfl) ?_
      refine lv_iadd hx hb d_X7_payOne_186 ?_
      refine lv_iconst (v := 1) hx hb d_X7_payOne_187 (by decide) ?_
      obtain ⟨h787, hv⟩ := hv
      refine mm_zast (D := G.1) hx hb hK hP hD hS (t := 50) (by decide) rfl rfl h787 d_X7_payOne_188 (fun H locs hP hD hS => ?_)
      refine lv_aload_n hx hb d_X7_payOne_189 rfl (lv_at hl 0 rfl) ?_
      refine mm_gr (D := G.1) (C := RX7) (T := TX7) (N0 := 21) (r := 53) hx hb hg in_X7 hown hK hP (t := 36) (by decide) rfl rfl 18 (by decide) (hg _ k_272) (fun _ h9 => h9) rfl d_X7_payOne_190 ?_
      refine lv_iload_n hx hb d_X7_payOne_193 rfl (lv_at hl 2 rfl) ?_
      refine lv_iconst (v := 2) hx hb d_X7_payOne_194 (by decide) ?_
      refine lv_imul hx hb d_X7_payOne_195 ?_
      refine lv_dup2_11 hx hb d_X7_payOne_196 rfl rfl ?_
      obtain ⟨h788, hv⟩ := hv
      refine mm_lald (D := G.1) hx hb hK hP (t := 53) (by decide) rfl rfl h788 d_X7_payOne_197 ?_
      refine lv_aload_n hx hb d_X7_payOne_198 rfl (lv_at hl 0 rfl) ?_
      refine mm_gr (D := G.1) (C := RX7) (T := TX7) (N0 := 21) (r := 55) hx hb hg in_X7 hown hK hP (t := 36) (by decide) rfl rfl 20 (by decide) (hg _ k_273) (fun _ h9 => h9) rfl d_X7_payOne_199 ?_
      refine lv_iconst (v := 0) hx hb d_X7_payOne_202 (by decide) ?_
      obtain ⟨h789, hv⟩ := hv
      refine mm_lald (D := G.1) hx hb hK hP (t := 55) (by decide) rfl rfl h789 d_X7_payOne_203 ?_
      refine lv_ladd hx hb d_X7_payOne_204 ?_
      obtain ⟨h790, hv⟩ := hv
      refine mm_last (D := G.1) hx hb hK hP hD hS (t := 53) (by decide) rfl rfl h790 d_X7_payOne_205 (fun H locs hP hD hS => ?_)
      refine lv_aload_n hx hb d_X7_payOne_206 rfl (lv_at hl 0 rfl) ?_
      refine mm_gr (D := G.1) (C := RX7) (T := TX7) (N0 := 21) (r := 53) hx hb hg in_X7 hown hK hP (t := 36) (by decide) rfl rfl 18 (by decide) (hg _ k_272) (fun _ h9 => h9) rfl d_X7_payOne_207 ?_
      refine lv_iload_n hx hb d_X7_payOne_210 rfl (lv_at hl 2 rfl) ?_
      refine lv_iconst (v := 2) hx hb d_X7_payOne_211 (by decide) ?_
      refine lv_imul hx hb d_X7_payOne_212 ?_
      refine lv_iconst (v := 1) hx hb d_X7_payOne_213 (by decide) ?_
      refine lv_iadd hx hb d_X7_payOne_214 ?_
      refine lv_dup2_11 hx hb d_X7_payOne_215 rfl rfl ?_
      obtain ⟨h791, hv⟩ := hv
      refine mm_lald (D := G.1) hx hb hK hP (t := 53) (by decide) rfl rfl h791 d_X7_payOne_216 ?_
      refine lv_aload_n hx hb d_X7_payOne_217 rfl (lv_at hl 0 rfl) ?_
      refine mm_gr (D := G.1) (C := RX7) (T := TX7) (N0 := 21) (r := 55) hx hb hg in_X7 hown hK hP (t := 36) (by decide) rfl rfl 20 (by decide) (hg _ k_273) (fun _ h9 => h9) rfl d_X7_payOne_218 ?_
      refine lv_iconst (v := 1) hx hb d_X7_payOne_221 (by decide) ?_
      obtain ⟨h792, hv⟩ := hv
      refine mm_lald (D := G.1) hx hb hK hP (t := 55) (by decide) rfl rfl h792 d_X7_payOne_222 ?_
      refine lv_ladd hx hb d_X7_payOne_223 ?_
      obtain ⟨h793, hv⟩ := hv
      refine mm_last (D := G.1) hx hb hK hP hD hS (t := 53) (by decide) rfl rfl h793 d_X7_payOne_224 (fun H locs hP hD hS => ?_)
      refine lv_iconst (v := 0) hx hb d_X7_payOne_225 (by decide) ?_
      exact W.iret (v := 0) hx hb hr (fun t ht hW => ⟨⟨0, ((mm_uI I 50 (((x1 * 6) + x2)).toNatClampNeg (vp_nar .boolean 1)), (mm_uL (mm_uL L 53 ((x2 * 2)).toNatClampNeg ((L 53 ((x2 * 2)).toNatClampNeg) + (L 55 (0 : Int32).toNatClampNeg))) 53 (((x2 * 2) + 1)).toNatClampNeg (((mm_uL L 53 ((x2 * 2)).toNatClampNeg ((L 53 ((x2 * 2)).toNatClampNeg) + (L 55 (0 : Int32).toNatClampNeg))) 53 (((x2 * 2) + 1)).toNatClampNeg) + ((mm_uL L 53 ((x2 * 2)).toNatClampNeg ((L 53 ((x2 * 2)).toNatClampNeg) + (L 55 (0 : Int32).toNatClampNeg))) 55 (1 : Int32).toNatClampNeg)))), rfl, hv, mm_mv ht hP⟩, hS.F ht⟩) hS.2.2 d_X7_payOne_226
    · have hv := hv.2 hc
      refine lv_aload_n hx hb d_X7_payOne_150 rfl (lv_at hl 0 rfl) ?_
      refine mm_gr (D := G.1) (C := RX7) (T := TX7) (N0 := 21) (r := 52) hx hb hg in_X7 hown hK hP (t := 36) (by decide) rfl rfl 17 (by decide) (hg _ k_292) (fun _ h9 => h9) rfl d_X7_payOne_151 ?_
      refine lv_iload_n hx hb d_X7_payOne_154 rfl (lv_at hl 1 rfl) ?_
      refine lv_bipush (v := 6) hx hb d_X7_payOne_155 (by decide) ?_
      refine lv_imul hx hb d_X7_payOne_157 ?_
      refine lv_iload_n hx hb d_X7_payOne_158 rfl (lv_at hl 2 rfl) ?_
      refine lv_iadd hx hb d_X7_payOne_159 ?_
      refine lv_iconst (v := 3) hx hb d_X7_payOne_160 (by decide) ?_
      refine lv_imul hx hb d_X7_payOne_161 ?_
      refine lv_iload_n hx hb d_X7_payOne_162 rfl (lv_at hl 3 rfl) ?_
      refine lv_iadd hx hb d_X7_payOne_163 ?_
      refine lv_aload_n hx hb d_X7_payOne_164 rfl (lv_at hl 0 rfl) ?_
      refine mm_gr (D := G.1) (C := RX7) (T := TX7) (N0 := 21) (r := 55) hx hb hg in_X7 hown hK hP (t := 36) (by decide) rfl rfl 20 (by decide) (hg _ k_273) (fun _ h9 => h9) rfl d_X7_payOne_165 ?_
      refine lv_iload_n hx hb d_X7_payOne_168 rfl (lv_at hl 3 rfl) ?_
      obtain ⟨h794, hv⟩ := hv
      refine mm_lald (D := G.1) hx hb hK hP (t := 55) (by decide) rfl rfl h794 d_X7_payOne_169 ?_
      obtain ⟨h795, hv⟩ := hv
      refine mm_last (D := G.1) hx hb hK hP hD hS (t := 52) (by decide) rfl rfl h795 d_X7_payOne_170 (fun H locs hP hD hS => ?_)
      refine lv_iinc (v := (x3 + 1)) (lv' := [(3, .int (x3 + 1)), (0, .ref (G.2.2.1 36)), (1, .int x1), (2, .int x2)]) hx hb d_X7_payOne_171 hl (k := 3) rfl (by rfl) (by decide) rfl (fun ls hl => ?_)
      refine lv_goto (tgt := 145) hx hb d_X7_payOne_174 (by decide) ?_
      exact ih x1 x2 (x3 + 1) I (mm_uL L 52 (((((x1 * 6) + x2) * 3) + x3)).toNatClampNeg (L 55 x3.toNatClampNeg))  H locs ls hv hP hD hS (lv_sub hl [1, 2, 3, 0] rfl)
set_option maxHeartbeats 4000000 in
set_option maxRecDepth 100000 in
theorem w_X7_payOne_18 {p : Program} {l : Launch} {e : Env} {s : State} {m : MethodId} {args : Array Value} {below : List Frame} {meth : Method} {c : Code} {G : mm_G} (hcx : mm_cx c_X7_payOne (some .int) 4 RX7 G p s m args meth c) (Q : Int32 → mm_I → mm_L → Prop) : ∀ (n9 : Nat) (x1 : Int32) (x2 : Int32) (x3 : Int32) (I : mm_I) (L : mm_L)  (H : Heap) (locs : List Loc) (ls : Array Slot), vc_X7_payOne_18 n9 x1 x2 x3 I L Q → mm_PW G I L H → mm_DW G I L → va_S G.2.2.2.1 s.heap H locs → lv_has ls 4 [(0, .ref (G.2.2.1 36)), (1, .int x1), (2, .int x2), (3, .int x3)] → W p l e (headSpec w_X7_payOne rm_X7_payOne).room s m args below meth c H locs 0 0 (MQ below (mm_qi G Q) args s 0 0 G.2.2.2.1) (F0 m 18 ls []) := by
  obtain ⟨hx, hb, hr, hlocks, hml, hown, hg, hK, hC⟩ := id hcx
  intro n9
  induction n9 with
  | zero => intro x1 x2 x3 I L H locs ls hv hP hD hS hl; exact hv.elim
  | succ n9 ih =>
    intro x1 x2 x3 I L H locs ls hv hP hD hS hl
    rw [vc_X7_payOne_18] at hv
    refine lv_iload_n hx hb d_X7_payOne_18 rfl (lv_at hl 3 rfl) ?_
    refine lv_iconst (v := 3) hx hb d_X7_payOne_19 (by decide) ?_
    refine lv_icmp_ge (tgt := 69) hx hb d_X7_payOne_20 (by decide) (fun hc => ?_) (fun hc => ?_)
    · have hv := hv.1 hc
      refine lv_aload_n hx hb d_X7_payOne_69 rfl (lv_at hl 0 rfl) ?_
      refine mm_gr (D := G.1) (C := RX7) (T := TX7) (N0 := 21) (r := 55) hx hb hg in_X7 hown hK hP (t := 36) (by decide) rfl rfl 20 (by decide) (hg _ k_273) (fun _ h9 => h9) rfl d_X7_payOne_70 ?_
      refine lv_iconst (v := 0) hx hb d_X7_payOne_73 (by decide) ?_
      obtain ⟨h771, hv⟩ := hv
      refine mm_lald (D := G.1) hx hb hK hP (t := 55) (by decide) rfl rfl h771 d_X7_payOne_74 ?_
      refine lv_aload_n hx hb d_X7_payOne_75 rfl (lv_at hl 0 rfl) ?_
      refine mm_gr (D := G.1) (C := RX7) (T := TX7) (N0 := 21) (r := 55) hx hb hg in_X7 hown hK hP (t := 36) (by decide) rfl rfl 20 (by decide) (hg _ k_273) (fun _ h9 => h9) rfl d_X7_payOne_76 ?_
      refine lv_iconst (v := 1) hx hb d_X7_payOne_79 (by decide) ?_
      obtain ⟨h772, hv⟩ := hv
      refine mm_lald (D := G.1) hx hb hK hP (t := 55) (by decide) rfl rfl h772 d_X7_payOne_80 ?_
      refine lv_lsub hx hb d_X7_payOne_81 ?_
      refine lv_aload_n hx hb d_X7_payOne_82 rfl (lv_at hl 0 rfl) ?_
      refine mm_gr (D := G.1) (C := RX7) (T := TX7) (N0 := 21) (r := 55) hx hb hg in_X7 hown hK hP (t := 36) (by decide) rfl rfl 20 (by decide) (hg _ k_273) (fun _ h9 => h9) rfl d_X7_payOne_83 ?_
      refine lv_iconst (v := 2) hx hb d_X7_payOne_86 (by decide) ?_
      obtain ⟨h773, hv⟩ := hv
      refine mm_lald (D := G.1) hx hb hK hP (t := 55) (by decide) rfl rfl h773 d_X7_payOne_87 ?_
      refine W.lcmp hx hb d_X7_payOne_88 ?_
      refine lv_if_eq (tgt := 94) hx hb d_X7_payOne_89 (by decide) (fun hc => ?_) (fun hc => ?_)
      · have hv := hv.1 ((lg_cmp_eq _ _).mp hc)
        refine lv_aload_n hx hb d_X7_payOne_94 rfl (lv_at hl 0 rfl) ?_
        refine lv_aload_n hx hb d_X7_payOne_95 rfl (lv_at hl 0 rfl) ?_
        refine mm_gr (D := G.1) (C := RX7) (T := TX7) (N0 := 21) (r := 53) hx hb hg in_X7 hown hK hP (t := 36) (by decide) rfl rfl 18 (by decide) (hg _ k_272) (fun _ h9 => h9) rfl d_X7_payOne_96 ?_
        refine lv_iload_n hx hb d_X7_payOne_99 rfl (lv_at hl 2 rfl) ?_
        refine lv_iconst (v := 2) hx hb d_X7_payOne_100 (by decide) ?_
        refine lv_imul hx hb d_X7_payOne_101 ?_
        obtain ⟨h774, hv⟩ := hv
        refine mm_lald (D := G.1) hx hb hK hP (t := 53) (by decide) rfl rfl h774 d_X7_payOne_102 ?_
        refine lv_aload_n hx hb d_X7_payOne_103 rfl (lv_at hl 0 rfl) ?_
        refine mm_gr (D := G.1) (C := RX7) (T := TX7) (N0 := 21) (r := 55) hx hb hg in_X7 hown hK hP (t := 36) (by decide) rfl rfl 20 (by decide) (hg _ k_273) (fun _ h9 => h9) rfl d_X7_payOne_104 ?_
        refine lv_iconst (v := 0) hx hb d_X7_payOne_107 (by decide) ?_
        obtain ⟨h775, hv⟩ := hv
        refine mm_lald (D := G.1) hx hb hK hP (t := 55) (by decide) rfl rfl h775 d_X7_payOne_108 ?_
        refine lv_ladd hx hb d_X7_payOne_109 ?_
        refine va_calli (va_runV (As := [.long ((L 53 ((x2 * 2)).toNatClampNeg) + (L 55 (0 : Int32).toNatClampNeg))]) (rest := []) ⟨hx, hb, hml, hown, hg⟩ (m_X7_whole l G ((L 53 ((x2 * 2)).toNatClampNeg) + (L 55 (0 : Int32).toNatClampNeg)) I L _  hv) (cwV 1 hg (mm_gV k_251 k_252 k_253 k_223 kc_X7_whole) rfl rfl rfl (by decide +kernel) ⟨Nat.le_of_ble_eq_true rfl, Nat.le_of_ble_eq_true rfl⟩) ⟨mm_blind, mm_recv hK hP (t := 36) (by decide) rfl rfl, fun U hU hW => mm_call hP hK hD hC hU hS hW⟩ rfl rfl hl.1 rfl (lv_room (Nat.le_of_ble_eq_true rfl)) d_X7_payOne_110 ⟨Nat.zero_le _, Nat.zero_le _⟩) hS (fun q _ h => h) (fun q h => h) (fun r778 u t H locs ht hvm hv hP hz1 hk1 hS => ?_)
        obtain ⟨I776, L777⟩ := u
        dsimp only at hv hP
        rw [ht] at hP
        have hD : mm_DW G I776 L777 := mm_D_any hD
        refine lv_if_eq (tgt := 140) hx hb d_X7_payOne_113 (by decide) (fun hc => ?_) (fun hc => ?_)
        · have hv := hv.1 hc
          refine lv_bipush (v := 6) hx hb d_X7_payOne_140 (by decide) ?_
          exact W.iret (v := 6) hx hb hr (fun t ht hW => ⟨⟨6, (I776, L777), rfl, hv, mm_mv ht hP⟩, hS.F ht⟩) hS.2.2 d_X7_payOne_142
        · have hv := hv.2 hc
          refine lv_aload_n hx hb d_X7_payOne_116 rfl (lv_at hl 0 rfl) ?_
          refine lv_aload_n hx hb d_X7_payOne_117 rfl (lv_at hl 0 rfl) ?_
          refine mm_gr (D := G.1) (C := RX7) (T := TX7) (N0 := 21) (r := 53) hx hb hg in_X7 hown hK hP (t := 36) (by decide) rfl rfl 18 (by decide) (hg _ k_272) (fun _ h9 => h9) rfl d_X7_payOne_118 ?_
          refine lv_iload_n hx hb d_X7_payOne_121 rfl (lv_at hl 2 rfl) ?_
          refine lv_iconst (v := 2) hx hb d_X7_payOne_122 (by decide) ?_
          refine lv_imul hx hb d_X7_payOne_123 ?_
          refine lv_iconst (v := 1) hx hb d_X7_payOne_124 (by decide) ?_
          refine lv_iadd hx hb d_X7_payOne_125 ?_
          obtain ⟨h779, hv⟩ := hv
          refine mm_lald (D := G.1) hx hb hK hP (t := 53) (by decide) rfl rfl h779 d_X7_payOne_126 ?_
          refine lv_aload_n hx hb d_X7_payOne_127 rfl (lv_at hl 0 rfl) ?_
          refine mm_gr (D := G.1) (C := RX7) (T := TX7) (N0 := 21) (r := 55) hx hb hg in_X7 hown hK hP (t := 36) (by decide) rfl rfl 20 (by decide) (hg _ k_273) (fun _ h9 => h9) rfl d_X7_payOne_128 ?_
          refine lv_iconst (v := 1) hx hb d_X7_payOne_131 (by decide) ?_
          obtain ⟨h780, hv⟩ := hv
          refine mm_lald (D := G.1) hx hb hK hP (t := 55) (by decide) rfl rfl h780 d_X7_payOne_132 ?_
          refine lv_ladd hx hb d_X7_payOne_133 ?_
          refine va_calli (va_runV (As := [.long ((L777 53 (((x2 * 2) + 1)).toNatClampNeg) + (L777 55 (1 : Int32).toNatClampNeg))]) (rest := []) ⟨hx, hb, hml, hown, hg⟩ (m_X7_whole l G ((L777 53 (((x2 * 2) + 1)).toNatClampNeg) + (L777 55 (1 : Int32).toNatClampNeg)) I776 L777 _  hv) (cwV 1 hg (mm_gV k_251 k_252 k_253 k_223 kc_X7_whole) rfl rfl rfl (by decide +kernel) ⟨Nat.le_of_ble_eq_true rfl, Nat.le_of_ble_eq_true rfl⟩) ⟨mm_blind, mm_recv hK hP (t := 36) (by decide) rfl rfl, fun U hU hW => mm_call hP hK hD hC hU hS hW⟩ rfl rfl hl.1 rfl (lv_room (Nat.le_of_ble_eq_true rfl)) d_X7_payOne_134 ⟨Nat.zero_le _, Nat.zero_le _⟩) hS (fun q _ h => h) (fun q h => h) (fun r783 u t H locs ht hvm hv hP hz1 hk1 hS => ?_)
          obtain ⟨I781, L782⟩ := u
          dsimp only at hv hP
          rw [ht] at hP
          have hD : mm_DW G I781 L782 := mm_D_any hD
          refine lv_if_ne (tgt := 143) hx hb d_X7_payOne_137 (by decide) (fun hc => ?_) (fun hc => ?_)
          · have hv := hv.1 hc
            refine lv_iconst (v := 0) hx hb d_X7_payOne_143 (by decide) ?_
            refine lv_istore_n (lv' := [(3, .int 0), (0, .ref (G.2.2.1 36)), (1, .int x1), (2, .int x2)]) hx hb d_X7_payOne_144 rfl hl (by decide) rfl (fun ls hl => ?_)
            obtain ⟨n, hv⟩ := hv
            exact w_X7_payOne_145 hcx Q n x1 x2 0 I781 L782  H locs ls hv hP hD hS (lv_sub hl [1, 2, 3, 0] rfl)
          · have hv := hv.2 hc
            refine lv_bipush (v := 6) hx hb d_X7_payOne_140 (by decide) ?_
            exact W.iret (v := 6) hx hb hr (fun t ht hW => ⟨⟨6, (I781, L782), rfl, hv, mm_mv ht hP⟩, hS.F ht⟩) hS.2.2 d_X7_payOne_142
      · have hv := hv.2 (fun q => hc ((lg_cmp_eq _ _).mpr q))
        refine lv_iconst (v := 5) hx hb d_X7_payOne_92 (by decide) ?_
        exact W.iret (v := 5) hx hb hr (fun t ht hW => ⟨⟨5, (I, L), rfl, hv, mm_mv ht hP⟩, hS.F ht⟩) hS.2.2 d_X7_payOne_93
    · have hv := hv.2 hc
      refine lv_aload_n hx hb d_X7_payOne_23 rfl (lv_at hl 0 rfl) ?_
      refine mm_gr (D := G.1) (C := RX7) (T := TX7) (N0 := 21) (r := 55) hx hb hg in_X7 hown hK hP (t := 36) (by decide) rfl rfl 20 (by decide) (hg _ k_273) (fun _ h9 => h9) rfl d_X7_payOne_24 ?_
      refine lv_iload_n hx hb d_X7_payOne_27 rfl (lv_at hl 3 rfl) ?_
      obtain ⟨h784, hv⟩ := hv
      refine mm_lald (D := G.1) hx hb hK hP (t := 55) (by decide) rfl rfl h784 d_X7_payOne_28 ?_
      refine lv_ldc2 (v := 1000000000100) hx hb hown (hg _ k_255) d_X7_payOne_29 ?_
      refine W.lcmp hx hb d_X7_payOne_32 ?_
      refine lv_if_le (tgt := 48) hx hb d_X7_payOne_33 (by decide) (fun hc => ?_) (fun hc => ?_)
      · have hv := hv.1 ((lg_cmp_le _ _).mp hc)
        refine lv_aload_n hx hb d_X7_payOne_48 rfl (lv_at hl 0 rfl) ?_
        refine mm_gr (D := G.1) (C := RX7) (T := TX7) (N0 := 21) (r := 55) hx hb hg in_X7 hown hK hP (t := 36) (by decide) rfl rfl 20 (by decide) (hg _ k_273) (fun _ h9 => h9) rfl d_X7_payOne_49 ?_
        refine lv_iload_n hx hb d_X7_payOne_52 rfl (lv_at hl 3 rfl) ?_
        obtain ⟨h785, hv⟩ := hv
        refine mm_lald (D := G.1) hx hb hK hP (t := 55) (by decide) rfl rfl h785 d_X7_payOne_53 ?_
        refine lv_ldc2 (v := 1000000000001) hx hb hown (hg _ k_254) d_X7_payOne_54 ?_
        refine W.lcmp hx hb d_X7_payOne_57 ?_
        refine lv_if_ne (tgt := 63) hx hb d_X7_payOne_58 (by decide) (fun hc => ?_) (fun hc => ?_)
        · have hv := hv.1 (fun q => hc ((lg_cmp_eq _ _).mpr q))
          refine lv_iinc (v := (x3 + 1)) (lv' := [(3, .int (x3 + 1)), (0, .ref (G.2.2.1 36)), (1, .int x1), (2, .int x2)]) hx hb d_X7_payOne_63 hl (k := 3) rfl (by rfl) (by decide) rfl (fun ls hl => ?_)
          refine lv_goto (tgt := 18) hx hb d_X7_payOne_66 (by decide) ?_
          exact ih x1 x2 (x3 + 1) I L  H locs ls hv hP hD hS (lv_sub hl [1, 2, 3, 0] rfl)
        · have hv := hv.2 ((lg_cmp_eq _ _).mp hc)
          refine lv_iconst (v := 2) hx hb d_X7_payOne_61 (by decide) ?_
          exact W.iret (v := 2) hx hb hr (fun t ht hW => ⟨⟨2, (I, L), rfl, hv, mm_mv ht hP⟩, hS.F ht⟩) hS.2.2 d_X7_payOne_62
      · have hv := hv.2 (fun q => hc ((lg_cmp_le _ _).mpr q))
        refine lv_aload_n hx hb d_X7_payOne_36 rfl (lv_at hl 0 rfl) ?_
        refine mm_gr (D := G.1) (C := RX7) (T := TX7) (N0 := 21) (r := 55) hx hb hg in_X7 hown hK hP (t := 36) (by decide) rfl rfl 20 (by decide) (hg _ k_273) (fun _ h9 => h9) rfl d_X7_payOne_37 ?_
        refine lv_iload_n hx hb d_X7_payOne_40 rfl (lv_at hl 3 rfl) ?_
        obtain ⟨h786, hv⟩ := hv
        refine mm_lald (D := G.1) hx hb hK hP (t := 55) (by decide) rfl rfl h786 d_X7_payOne_41 ?_
        refine lv_ldc2 (v := 1000000000100) hx hb hown (hg _ k_255) d_X7_payOne_42 ?_
        refine lv_lsub hx hb d_X7_payOne_45 ?_
        refine lv_l2i (v := (((L 55 x3.toNatClampNeg) - 1000000000100)).toInt32) hx hb d_X7_payOne_46 rfl ?_
        exact W.iret (v := (((L 55 x3.toNatClampNeg) - 1000000000100)).toInt32) hx hb hr (fun t ht hW => ⟨⟨(((L 55 x3.toNatClampNeg) - 1000000000100)).toInt32, (I, L), rfl, hv, mm_mv ht hP⟩, hS.F ht⟩) hS.2.2 d_X7_payOne_47
set_option maxHeartbeats 4000000 in
set_option maxRecDepth 100000 in
theorem w_X7_payOne_0 {p : Program} {l : Launch} {e : Env} {s : State} {m : MethodId} {args : Array Value} {below : List Frame} {meth : Method} {c : Code} {G : mm_G} (hcx : mm_cx c_X7_payOne (some .int) 4 RX7 G p s m args meth c) (x1 : Int32) (x2 : Int32) (I : mm_I) (L : mm_L) (Q : Int32 → mm_I → mm_L → Prop)  (hv : vc_X7_payOne_0 x1 x2 I L Q) {H : Heap} {locs : List Loc} (hP : mm_PW G I L H) (hD : mm_DW G I L) (hS : va_S G.2.2.2.1 s.heap H locs) {ls : Array Slot} (hl : lv_has ls 4 [(0, .ref (G.2.2.1 36)), (1, .int x1), (2, .int x2)]) : W p l e (headSpec w_X7_payOne rm_X7_payOne).room s m args below meth c H locs 0 0 (MQ below (mm_qi G Q) args s 0 0 G.2.2.2.1) (F0 m 0 ls []) := by
  obtain ⟨hx, hb, hr, hlocks, hml, hown, hg, hK, hC⟩ := id hcx
  unfold vc_X7_payOne_0 at hv
  refine lv_aload_n hx hb d_X7_payOne_0 rfl (lv_at hl 0 rfl) ?_
  refine lv_iload_n hx hb d_X7_payOne_1 rfl (lv_at hl 2 rfl) ?_
  refine va_calli (va_runV (As := [.int x2]) (rest := []) ⟨hx, hb, hml, hown, hg⟩ (m_X7_paidWhole l G x2 I L _  hv) (cwV 1 hg (mm_gV k_288 k_289 k_290 k_223 kc_X7_paidWhole) rfl rfl rfl (by decide +kernel) ⟨Nat.le_of_ble_eq_true rfl, Nat.le_of_ble_eq_true rfl⟩) ⟨mm_blind, mm_recv hK hP (t := 36) (by decide) rfl rfl, fun U hU hW => mm_call hP hK hD hC hU hS hW⟩ rfl rfl hl.1 rfl (lv_room (Nat.le_of_ble_eq_true rfl)) d_X7_payOne_2 ⟨Nat.zero_le _, Nat.zero_le _⟩) hS (fun q _ h => h) (fun q h => h) (fun r767 u t H locs ht hvm hv hP hz1 hk1 hS => ?_)
  obtain ⟨I765, L766⟩ := u
  dsimp only at hv hP
  rw [ht] at hP
  have hD : mm_DW G I765 L766 := mm_D_any hD
  refine lv_if_ne (tgt := 11) hx hb d_X7_payOne_5 (by decide) (fun hc => ?_) (fun hc => ?_)
  · have hv := hv.1 hc
    refine lv_aload_n hx hb d_X7_payOne_11 rfl (lv_at hl 0 rfl) ?_
    refine lv_iload_n hx hb d_X7_payOne_12 rfl (lv_at hl 2 rfl) ?_
    refine va_callv (va_runV (As := [.int x2]) (rest := []) ⟨hx, hb, hml, hown, hg⟩ (m_X7_person l G x2 I765 L766 _  hv) (cwV 1 hg (mm_gV k_285 k_286 k_287 k_223 kc_X7_person) rfl rfl rfl (by decide +kernel) ⟨Nat.le_of_ble_eq_true rfl, Nat.le_of_ble_eq_true rfl⟩) ⟨mm_blind, mm_recv hK hP (t := 36) (by decide) rfl rfl, fun U hU hW => mm_call hP hK hD hC hU hS hW⟩ rfl rfl hl.1 rfl (lv_room (Nat.le_of_ble_eq_true rfl)) d_X7_payOne_13 ⟨Nat.zero_le _, Nat.zero_le _⟩) hS (fun q _ h => h) (fun q h => h) (fun u t H locs ht hvm hv hP hz1 hk1 hS => ?_)
    obtain ⟨I768, L769⟩ := u
    dsimp only at hv hP
    rw [ht] at hP
    have hD : mm_DW G I768 L769 := mm_D_any hD
    refine lv_iconst (v := 0) hx hb d_X7_payOne_16 (by decide) ?_
    refine lv_istore_n (lv' := [(3, .int 0), (0, .ref (G.2.2.1 36)), (1, .int x1), (2, .int x2)]) hx hb d_X7_payOne_17 rfl hl (by decide) rfl (fun ls hl => ?_)
    obtain ⟨n, hv⟩ := hv
    exact w_X7_payOne_18 hcx Q n x1 x2 0 I768 L769  H locs ls hv hP hD hS (lv_sub hl [1, 2, 3, 0] rfl)
  · have hv := hv.2 hc
    refine lv_bipush (v := 6) hx hb d_X7_payOne_8 (by decide) ?_
    exact W.iret (v := 6) hx hb hr (fun t ht hW => ⟨⟨6, (I765, L766), rfl, hv, mm_mv ht hP⟩, hS.F ht⟩) hS.2.2 d_X7_payOne_10
abbrev vc_X7_payOne (x1 : Int32) (x2 : Int32) (I : mm_I) (L : mm_L) (Q : Int32 → mm_I → mm_L → Prop) : Prop := vc_X7_payOne_0 x1 x2 I L Q
set_option maxHeartbeats 4000000 in
set_option maxRecDepth 100000 in
theorem m_X7_payOne (l : Launch) (G : mm_G) (x1 : Int32) (x2 : Int32) (I : mm_I) (L : mm_L) (Q : Int32 → mm_I → mm_L → Prop)  (hv : vc_X7_payOne x1 x2 I L Q) : Met l y_X7_payOne w_X7_payOne rm_X7_payOne (mm_pre G [.ref (G.2.2.1 36), .int x1, .int x2] I L) (mm_qi G Q) 0 0 G.2.2.2.1 := by
  refine Met.ofW (cc := c_X7_payOne) (maxL := 4) (ret := (some .int)) (by decide) rfl ?_
  intro p e s m args below meth c s₁ B hml hw
  obtain ⟨rfl, hP, hK, hD, hC⟩ := hw
  have hts := atoms_spec (ws := w_X7_payOne) B.pre
  have hown : s.vm.findClass RX7 = some m.cls := findClass_of_methodNamed B.named
  have hl := lv_entry ([.ref (G.2.2.1 36), .int x1, .int x2]) (n := 4) (Nat.le_of_ble_eq_true rfl)
  rw [lg_entry_eq]
  generalize (lg_sl ([.ref (G.2.2.1 36), .int x1, .int x2]) ++ List.replicate (4 - (lg_sl ([.ref (G.2.2.1 36), .int x1, .int x2])).length) Slot.unset).toArray = ls at hl ⊢
  have hl : lv_has ls 4 [(0, .ref (G.2.2.1 36)), (1, .int x1), (2, .int x2)] := hl
  exact w_X7_payOne_0 ⟨B.exec, B.bytes, B.returns, B.notSynchronized, hml, hown, fun w h => hts w (List.mem_cons_of_mem _ h), hK, hC⟩ x1 x2 I L Q  hv hP hD va_S.rf hl
abbrev rm_X7_payAll : Room := { frames := 6, cells := 0, slots := 0, locals := 145 }
def vc_X7_payAll_9 : Nat → Int32 → Int32 → mm_I → mm_L → (mm_I → mm_L → Prop) → Prop
  | 0, _, _, _, _, _ => False
  | n9 + 1, x1, x2, I, L, Q => (6 ≤ x2 → Q I L) ∧ (¬ 6 ≤ x2 → vp_in ((x1 * 6) + x2) 96 ∧ vp_in x2 6 ∧ (((mm_uI I 50 (((x1 * 6) + x2)).toNatClampNeg (vp_nar .boolean 0)) 48 x2.toNatClampNeg) = 0 → vp_in ((x1 * 6) + x2) 96 ∧ vc_X7_payAll_9 n9 x1 (x2 + 1) (mm_uI (mm_uI I 50 (((x1 * 6) + x2)).toNatClampNeg (vp_nar .boolean 0)) 51 (((x1 * 6) + x2)).toNatClampNeg 0) L Q) ∧ (¬ ((mm_uI I 50 (((x1 * 6) + x2)).toNatClampNeg (vp_nar .boolean 0)) 48 x2.toNatClampNeg) = 0 → vc_X7_payOne x1 x2 (mm_uI I 50 (((x1 * 6) + x2)).toNatClampNeg (vp_nar .boolean 0)) L (fun r802 I800 L801 => vp_in ((x1 * 6) + x2) 96 ∧ vc_X7_payAll_9 n9 x1 (x2 + 1) (mm_uI I800 51 (((x1 * 6) + x2)).toNatClampNeg r802) L801 Q)))
def vc_X7_payAll_0 (x1 : Int32) (I : mm_I) (L : mm_L) (Q : mm_I → mm_L → Prop) : Prop :=
  vp_in x1 16 ∧ ∃ n, vc_X7_payAll_9 n x1 0 (mm_uI I 49 x1.toNatClampNeg (vp_nar .boolean 0)) L Q
set_option maxHeartbeats 4000000 in
set_option maxRecDepth 100000 in
theorem w_X7_payAll_9 {p : Program} {l : Launch} {e : Env} {s : State} {m : MethodId} {args : Array Value} {below : List Frame} {meth : Method} {c : Code} {G : mm_G} (hcx : mm_cx c_X7_payAll none 3 RX7 G p s m args meth c) (Q : mm_I → mm_L → Prop) : ∀ (n9 : Nat) (x1 : Int32) (x2 : Int32) (I : mm_I) (L : mm_L)  (H : Heap) (locs : List Loc) (ls : Array Slot), vc_X7_payAll_9 n9 x1 x2 I L Q → mm_PW G I L H → mm_DW G I L → va_S G.2.2.2.1 s.heap H locs → lv_has ls 3 [(0, .ref (G.2.2.1 36)), (1, .int x1), (2, .int x2)] → W p l e (headSpec w_X7_payAll rm_X7_payAll).room s m args below meth c H locs 0 0 (MQ below (mm_qv G Q) args s 0 0 G.2.2.2.1) (F0 m 9 ls []) := by
  obtain ⟨hx, hb, hr, hlocks, hml, hown, hg, hK, hC⟩ := id hcx
  intro n9
  induction n9 with
  | zero => intro x1 x2 I L H locs ls hv hP hD hS hl; exact hv.elim
  | succ n9 ih =>
    intro x1 x2 I L H locs ls hv hP hD hS hl
    rw [vc_X7_payAll_9] at hv
    refine lv_iload_n hx hb d_X7_payAll_9 rfl (lv_at hl 2 rfl) ?_
    refine lv_bipush (v := 6) hx hb d_X7_payAll_10 (by decide) ?_
    refine lv_icmp_ge (tgt := 63) hx hb d_X7_payAll_12 (by decide) (fun hc => ?_) (fun hc => ?_)
    · have hv := hv.1 hc
      exact W.vret hx hb hr (fun t ht hW => ⟨⟨(I, L), rfl, hv, mm_mv ht hP⟩, hS.F ht⟩) hS.2.2 d_X7_payAll_63
    · have hv := hv.2 hc
      refine lv_aload_n hx hb d_X7_payAll_15 rfl (lv_at hl 0 rfl) ?_
      refine mm_gr (D := G.1) (C := RX7) (T := TX7) (N0 := 21) (r := 50) hx hb hg in_X7 hown hK hP (t := 36) (by decide) rfl rfl 15 (by decide) (hg _ k_291) (fun _ h9 => h9) rfl d_X7_payAll_16 ?_
      refine lv_iload_n hx hb d_X7_payAll_19 rfl (lv_at hl 1 rfl) ?_
      refine lv_bipush (v := 6) hx hb d_X7_payAll_20 (by decide) ?_
      refine lv_imul hx hb d_X7_payAll_22 ?_
      refine lv_iload_n hx hb d_X7_payAll_23 rfl (lv_at hl 2 rfl) ?_
      refine lv_iadd hx hb d_X7_payAll_24 ?_
      refine lv_iconst (v := 0) hx hb d_X7_payAll_25 (by decide) ?_
      obtain ⟨h797, hv⟩ := hv
      refine mm_zast (D := G.1) hx hb hK hP hD hS (t := 50) (by decide) rfl rfl h797 d_X7_payAll_26 (fun H locs hP hD hS => ?_)
      refine lv_aload_n hx hb d_X7_payAll_27 rfl (lv_at hl 0 rfl) ?_
      refine mm_gr (D := G.1) (C := RX7) (T := TX7) (N0 := 21) (r := 51) hx hb hg in_X7 hown hK hP (t := 36) (by decide) rfl rfl 16 (by decide) (hg _ k_294) (fun _ h9 => h9) rfl d_X7_payAll_28 ?_
      refine lv_iload_n hx hb d_X7_payAll_31 rfl (lv_at hl 1 rfl) ?_
      refine lv_bipush (v := 6) hx hb d_X7_payAll_32 (by decide) ?_
      refine lv_imul hx hb d_X7_payAll_34 ?_
      refine lv_iload_n hx hb d_X7_payAll_35 rfl (lv_at hl 2 rfl) ?_
      refine lv_iadd hx hb d_X7_payAll_36 ?_
      refine lv_aload_n hx hb d_X7_payAll_37 rfl (lv_at hl 0 rfl) ?_
      refine mm_gr (D := G.1) (C := RX7) (T := TX7) (N0 := 21) (r := 48) hx hb hg in_X7 hown hK hP (t := 36) (by decide) rfl rfl 13 (by decide) (hg _ k_247) (fun _ h9 => h9) rfl d_X7_payAll_38 ?_
      refine lv_iload_n hx hb d_X7_payAll_41 rfl (lv_at hl 2 rfl) ?_
      obtain ⟨h798, hv⟩ := hv
      refine mm_zald (D := G.1) hx hb hK hP (t := 48) (by decide) rfl rfl h798 d_X7_payAll_42 ?_
      refine lv_if_eq (tgt := 55) hx hb d_X7_payAll_43 (by decide) (fun hc => ?_) (fun hc => ?_)
      · have hv := hv.1 hc
        refine lv_iconst (v := 0) hx hb d_X7_payAll_55 (by decide) ?_
        obtain ⟨h799, hv⟩ := hv
        refine mm_iast (D := G.1) hx hb hK hP hD hS (t := 51) (by decide) rfl rfl h799 d_X7_payAll_56 (fun H locs hP hD hS => ?_)
        refine lv_iinc (v := (x2 + 1)) (lv' := [(2, .int (x2 + 1)), (0, .ref (G.2.2.1 36)), (1, .int x1)]) hx hb d_X7_payAll_57 hl (k := 2) rfl (by rfl) (by decide) rfl (fun ls hl => ?_)
        refine lv_goto (tgt := 9) hx hb d_X7_payAll_60 (by decide) ?_
        exact ih x1 (x2 + 1) (mm_uI (mm_uI I 50 (((x1 * 6) + x2)).toNatClampNeg (vp_nar .boolean 0)) 51 (((x1 * 6) + x2)).toNatClampNeg 0) L  H locs ls hv hP hD hS (lv_sub hl [1, 2, 0] rfl)
      · have hv := hv.2 hc
        refine lv_aload_n hx hb d_X7_payAll_46 rfl (lv_at hl 0 rfl) ?_
        refine lv_iload_n hx hb d_X7_payAll_47 rfl (lv_at hl 1 rfl) ?_
        refine lv_iload_n hx hb d_X7_payAll_48 rfl (lv_at hl 2 rfl) ?_
        refine va_calli (va_runV (As := [.int x1, .int x2]) (rest := [.int ((x1 * 6) + x2), .ref (G.2.2.1 51)]) ⟨hx, hb, hml, hown, hg⟩ (m_X7_payOne l G x1 x2 (mm_uI I 50 (((x1 * 6) + x2)).toNatClampNeg (vp_nar .boolean 0)) L _  hv) (cwV 2 hg (mm_gV k_295 k_296 k_297 k_223 kc_X7_payOne) rfl rfl rfl (by decide +kernel) ⟨Nat.le_of_ble_eq_true rfl, Nat.le_of_ble_eq_true rfl⟩) ⟨mm_blind, mm_recv hK hP (t := 36) (by decide) rfl rfl, fun U hU hW => mm_call hP hK hD hC hU hS hW⟩ rfl rfl hl.1 rfl (lv_room (Nat.le_of_ble_eq_true rfl)) d_X7_payAll_49 ⟨Nat.zero_le _, Nat.zero_le _⟩) hS (fun q _ h => h) (fun q h => h) (fun r802 u t H locs ht hvm hv hP hz1 hk1 hS => ?_)
        obtain ⟨I800, L801⟩ := u
        dsimp only at hv hP
        rw [ht] at hP
        have hD : mm_DW G I800 L801 := mm_D_any hD
        refine lv_goto (tgt := 56) hx hb d_X7_payAll_52 (by decide) ?_
        obtain ⟨h803, hv⟩ := hv
        refine mm_iast (D := G.1) hx hb hK hP hD hS (t := 51) (by decide) rfl rfl h803 d_X7_payAll_56 (fun H locs hP hD hS => ?_)
        refine lv_iinc (v := (x2 + 1)) (lv' := [(2, .int (x2 + 1)), (0, .ref (G.2.2.1 36)), (1, .int x1)]) hx hb d_X7_payAll_57 hl (k := 2) rfl (by rfl) (by decide) rfl (fun ls hl => ?_)
        refine lv_goto (tgt := 9) hx hb d_X7_payAll_60 (by decide) ?_
        exact ih x1 (x2 + 1) (mm_uI I800 51 (((x1 * 6) + x2)).toNatClampNeg r802) L801  H locs ls hv hP hD hS (lv_sub hl [1, 2, 0] rfl)
set_option maxHeartbeats 4000000 in
set_option maxRecDepth 100000 in
theorem w_X7_payAll_0 {p : Program} {l : Launch} {e : Env} {s : State} {m : MethodId} {args : Array Value} {below : List Frame} {meth : Method} {c : Code} {G : mm_G} (hcx : mm_cx c_X7_payAll none 3 RX7 G p s m args meth c) (x1 : Int32) (I : mm_I) (L : mm_L) (Q : mm_I → mm_L → Prop)  (hv : vc_X7_payAll_0 x1 I L Q) {H : Heap} {locs : List Loc} (hP : mm_PW G I L H) (hD : mm_DW G I L) (hS : va_S G.2.2.2.1 s.heap H locs) {ls : Array Slot} (hl : lv_has ls 3 [(0, .ref (G.2.2.1 36)), (1, .int x1)]) : W p l e (headSpec w_X7_payAll rm_X7_payAll).room s m args below meth c H locs 0 0 (MQ below (mm_qv G Q) args s 0 0 G.2.2.2.1) (F0 m 0 ls []) := by
  obtain ⟨hx, hb, hr, hlocks, hml, hown, hg, hK, hC⟩ := id hcx
  unfold vc_X7_payAll_0 at hv
  refine lv_aload_n hx hb d_X7_payAll_0 rfl (lv_at hl 0 rfl) ?_
  refine mm_gr (D := G.1) (C := RX7) (T := TX7) (N0 := 21) (r := 49) hx hb hg in_X7 hown hK hP (t := 36) (by decide) rfl rfl 14 (by decide) (hg _ k_293) (fun _ h9 => h9) rfl d_X7_payAll_1 ?_
  refine lv_iload_n hx hb d_X7_payAll_4 rfl (lv_at hl 1 rfl) ?_
  refine lv_iconst (v := 0) hx hb d_X7_payAll_5 (by decide) ?_
  obtain ⟨h796, hv⟩ := hv
  refine mm_zast (D := G.1) hx hb hK hP hD hS (t := 49) (by decide) rfl rfl h796 d_X7_payAll_6 (fun H locs hP hD hS => ?_)
  refine lv_iconst (v := 0) hx hb d_X7_payAll_7 (by decide) ?_
  refine lv_istore_n (lv' := [(2, .int 0), (0, .ref (G.2.2.1 36)), (1, .int x1)]) hx hb d_X7_payAll_8 rfl hl (by decide) rfl (fun ls hl => ?_)
  obtain ⟨n, hv⟩ := hv
  exact w_X7_payAll_9 hcx Q n x1 0 (mm_uI I 49 x1.toNatClampNeg (vp_nar .boolean 0)) L  H locs ls hv hP hD hS (lv_sub hl [1, 2, 0] rfl)
abbrev vc_X7_payAll (x1 : Int32) (I : mm_I) (L : mm_L) (Q : mm_I → mm_L → Prop) : Prop := vc_X7_payAll_0 x1 I L Q
set_option maxHeartbeats 4000000 in
set_option maxRecDepth 100000 in
theorem m_X7_payAll (l : Launch) (G : mm_G) (x1 : Int32) (I : mm_I) (L : mm_L) (Q : mm_I → mm_L → Prop)  (hv : vc_X7_payAll x1 I L Q) : Met l y_X7_payAll w_X7_payAll rm_X7_payAll (mm_pre G [.ref (G.2.2.1 36), .int x1] I L) (mm_qv G Q) 0 0 G.2.2.2.1 := by
  refine Met.ofW (cc := c_X7_payAll) (maxL := 3) (ret := none) (by decide) rfl ?_
  intro p e s m args below meth c s₁ B hml hw
  obtain ⟨rfl, hP, hK, hD, hC⟩ := hw
  have hts := atoms_spec (ws := w_X7_payAll) B.pre
  have hown : s.vm.findClass RX7 = some m.cls := findClass_of_methodNamed B.named
  have hl := lv_entry ([.ref (G.2.2.1 36), .int x1]) (n := 3) (Nat.le_of_ble_eq_true rfl)
  rw [lg_entry_eq]
  generalize (lg_sl ([.ref (G.2.2.1 36), .int x1]) ++ List.replicate (3 - (lg_sl ([.ref (G.2.2.1 36), .int x1])).length) Slot.unset).toArray = ls at hl ⊢
  have hl : lv_has ls 3 [(0, .ref (G.2.2.1 36)), (1, .int x1)] := hl
  exact w_X7_payAll_0 ⟨B.exec, B.bytes, B.returns, B.notSynchronized, hml, hown, fun w h => hts w (List.mem_cons_of_mem _ h), hK, hC⟩ x1 I L Q  hv hP hD va_S.rf hl
abbrev rm_X7_pay : Room := { frames := 7, cells := 0, slots := 0, locals := 167 }
def vc_X7_pay_0  (I : mm_I) (L : mm_L) (Q : Int32 → mm_I → mm_L → Prop) : Prop :=
  (¬ (I 36 1) = 16 → vc_X7_payAll (I 36 1) I L (fun I804 L805 => Q (((mm_uI I804 36 1 ((I804 36 1) + 1)) 36 1) - 1) (mm_uI I804 36 1 ((I804 36 1) + 1)) L805)) ∧ ((I 36 1) = 16 → Q (-2) I L)
set_option maxHeartbeats 4000000 in
set_option maxRecDepth 100000 in
theorem w_X7_pay_0 {p : Program} {l : Launch} {e : Env} {s : State} {m : MethodId} {args : Array Value} {below : List Frame} {meth : Method} {c : Code} {G : mm_G} (hcx : mm_cx c_X7_pay (some .int) 1 RX7 G p s m args meth c)  (I : mm_I) (L : mm_L) (Q : Int32 → mm_I → mm_L → Prop)  (hv : vc_X7_pay_0  I L Q) {H : Heap} {locs : List Loc} (hP : mm_PW G I L H) (hD : mm_DW G I L) (hS : va_S G.2.2.2.1 s.heap H locs) {ls : Array Slot} (hl : lv_has ls 1 [(0, .ref (G.2.2.1 36))]) : W p l e (headSpec w_X7_pay rm_X7_pay).room s m args below meth c H locs 0 0 (MQ below (mm_qi G Q) args s 0 0 G.2.2.2.1) (F0 m 0 ls []) := by
  obtain ⟨hx, hb, hr, hlocks, hml, hown, hg, hK, hC⟩ := id hcx
  unfold vc_X7_pay_0 at hv
  refine lv_aload_n hx hb d_X7_pay_0 rfl (lv_at hl 0 rfl) ?_
  refine mm_gi (D := G.1) (C := RX7) (T := TX7) (N0 := 21) hx hb hg in_X7 hown hK hP (t := 36) (by decide) rfl rfl 1 (by decide) (hg _ k_298) (fun _ h9 => h9) rfl d_X7_pay_1 ?_
  refine lv_bipush (v := 16) hx hb d_X7_pay_4 (by decide) ?_
  refine lv_icmp_ne (tgt := 12) hx hb d_X7_pay_6 (by decide) (fun hc => ?_) (fun hc => ?_)
  · have hv := hv.1 hc
    refine lv_aload_n hx hb d_X7_pay_12 rfl (lv_at hl 0 rfl) ?_
    refine lv_aload_n hx hb d_X7_pay_13 rfl (lv_at hl 0 rfl) ?_
    refine mm_gi (D := G.1) (C := RX7) (T := TX7) (N0 := 21) hx hb hg in_X7 hown hK hP (t := 36) (by decide) rfl rfl 1 (by decide) (hg _ k_298) (fun _ h9 => h9) rfl d_X7_pay_14 ?_
    refine va_callv (va_runV (As := [.int (I 36 1)]) (rest := []) ⟨hx, hb, hml, hown, hg⟩ (m_X7_payAll l G (I 36 1) I L _  hv) (cwV 1 hg (mm_gV k_299 k_300 k_301 k_223 kc_X7_payAll) rfl rfl rfl (by decide +kernel) ⟨Nat.le_of_ble_eq_true rfl, Nat.le_of_ble_eq_true rfl⟩) ⟨mm_blind, mm_recv hK hP (t := 36) (by decide) rfl rfl, fun U hU hW => mm_call hP hK hD hC hU hS hW⟩ rfl rfl hl.1 rfl (lv_room (Nat.le_of_ble_eq_true rfl)) d_X7_pay_17 ⟨Nat.zero_le _, Nat.zero_le _⟩) hS (fun q _ h => h) (fun q h => h) (fun u t H locs ht hvm hv hP hz1 hk1 hS => ?_)
    obtain ⟨I804, L805⟩ := u
    dsimp only at hv hP
    rw [ht] at hP
    have hD : mm_DW G I804 L805 := mm_D_any hD
    refine lv_aload_n hx hb d_X7_pay_20 rfl (lv_at hl 0 rfl) ?_
    refine lv_dup hx hb d_X7_pay_21 rfl ?_
    refine mm_gi (D := G.1) (C := RX7) (T := TX7) (N0 := 21) hx hb hg in_X7 hown hK hP (t := 36) (by decide) rfl rfl 1 (by decide) (hg _ k_298) (fun _ h9 => h9) rfl d_X7_pay_22 ?_
    refine lv_iconst (v := 1) hx hb d_X7_pay_25 (by decide) ?_
    refine lv_iadd hx hb d_X7_pay_26 ?_
    refine mm_pi (D := G.1) (C := RX7) (T := TX7) (N0 := 21) (ty := .int) hx hb hg in_X7 tyX7 tyX7_ok nmX7 hown hK hP hD hS (t := 36) (by decide) rfl rfl 1 (by decide) (hg _ k_298) (fun _ h9 => h9) rfl (by decide +kernel) rfl rfl rfl d_X7_pay_27 (fun H locs hP hD hS => ?_)
    refine lv_aload_n hx hb d_X7_pay_30 rfl (lv_at hl 0 rfl) ?_
    refine mm_gi (D := G.1) (C := RX7) (T := TX7) (N0 := 21) hx hb hg in_X7 hown hK hP (t := 36) (by decide) rfl rfl 1 (by decide) (hg _ k_298) (fun _ h9 => h9) rfl d_X7_pay_31 ?_
    refine lv_iconst (v := 1) hx hb d_X7_pay_34 (by decide) ?_
    refine lv_isub hx hb d_X7_pay_35 ?_
    exact W.iret (v := (((mm_uI I804 36 1 ((I804 36 1) + 1)) 36 1) - 1)) hx hb hr (fun t ht hW => ⟨⟨(((mm_uI I804 36 1 ((I804 36 1) + 1)) 36 1) - 1), ((mm_uI I804 36 1 ((I804 36 1) + 1)), L805), rfl, hv, mm_mv ht hP⟩, hS.F ht⟩) hS.2.2 d_X7_pay_36
  · have hv := hv.2 hc
    refine lv_bipush (v := (-2)) hx hb d_X7_pay_9 (by decide) ?_
    exact W.iret (v := (-2)) hx hb hr (fun t ht hW => ⟨⟨(-2), (I, L), rfl, hv, mm_mv ht hP⟩, hS.F ht⟩) hS.2.2 d_X7_pay_11
abbrev vc_X7_pay  (I : mm_I) (L : mm_L) (Q : Int32 → mm_I → mm_L → Prop) : Prop := vc_X7_pay_0  I L Q
set_option maxHeartbeats 4000000 in
set_option maxRecDepth 100000 in
theorem m_X7_pay (l : Launch) (G : mm_G)  (I : mm_I) (L : mm_L) (Q : Int32 → mm_I → mm_L → Prop)  (hv : vc_X7_pay  I L Q) : Met l y_X7_pay w_X7_pay rm_X7_pay (mm_pre G [.ref (G.2.2.1 36)] I L) (mm_qi G Q) 0 0 G.2.2.2.1 := by
  refine Met.ofW (cc := c_X7_pay) (maxL := 1) (ret := (some .int)) (by decide) rfl ?_
  intro p e s m args below meth c s₁ B hml hw
  obtain ⟨rfl, hP, hK, hD, hC⟩ := hw
  have hts := atoms_spec (ws := w_X7_pay) B.pre
  have hown : s.vm.findClass RX7 = some m.cls := findClass_of_methodNamed B.named
  have hl := lv_entry ([.ref (G.2.2.1 36)]) (n := 1) (Nat.le_of_ble_eq_true rfl)
  rw [lg_entry_eq]
  generalize (lg_sl ([.ref (G.2.2.1 36)]) ++ List.replicate (1 - (lg_sl ([.ref (G.2.2.1 36)])).length) Slot.unset).toArray = ls at hl ⊢
  have hl : lv_has ls 1 [(0, .ref (G.2.2.1 36))] := hl
  exact w_X7_pay_0 ⟨B.exec, B.bytes, B.returns, B.notSynchronized, hml, hown, fun w h => hts w (List.mem_cons_of_mem _ h), hK, hC⟩  I L Q  hv hP hD va_S.rf hl
abbrev rm_X7_takeBack : Room := { frames := 0, cells := 0, slots := 0, locals := 0 }
def vc_X7_takeBack_17 : Nat → Int32 → Int32 → Int32 → mm_I → mm_L → (mm_I → mm_L → Prop) → (Int32 → Int32 → mm_I → mm_L → Prop) → Prop
  | 0, _, _, _, _, _, _, _ => False
  | n9 + 1, x1, x2, x3, I, L, Q, K => (2 ≤ x3 → K x1 x2 I L) ∧ (¬ 2 ≤ x3 → vp_in ((x1 * 6) + x2) 96 ∧ ((I 50 (((x1 * 6) + x2)).toNatClampNeg) = 0 → K x1 x2 I L) ∧ (¬ (I 50 (((x1 * 6) + x2)).toNatClampNeg) = 0 → vp_in ((x2 * 2) + x3) 12 ∧ vp_in ((((x1 * 6) + x2) * 3) + x3) 288 ∧ vp_in ((x2 * 2) + x3) 12 ∧ vc_X7_takeBack_17 n9 x1 x2 (x3 + 1) I (mm_uL L 53 (((x2 * 2) + x3)).toNatClampNeg ((L 53 (((x2 * 2) + x3)).toNatClampNeg) - (L 52 (((((x1 * 6) + x2) * 3) + x3)).toNatClampNeg))) Q K))
def vc_X7_takeBack_9 : Nat → Int32 → Int32 → mm_I → mm_L → (mm_I → mm_L → Prop) → Prop
  | 0, _, _, _, _, _ => False
  | n9 + 1, x1, x2, I, L, Q => (6 ≤ x2 → Q I L) ∧ (¬ 6 ≤ x2 → ∃ n, vc_X7_takeBack_17 n x1 x2 0 I L Q (fun x1 x2 I L => vc_X7_takeBack_9 n9 x1 (x2 + 1) I L Q))
def vc_X7_takeBack_0 (x1 : Int32) (I : mm_I) (L : mm_L) (Q : mm_I → mm_L → Prop) : Prop :=
  vp_in x1 16 ∧ ∃ n, vc_X7_takeBack_9 n x1 0 (mm_uI I 49 x1.toNatClampNeg (vp_nar .boolean 1)) L Q
set_option maxHeartbeats 4000000 in
set_option maxRecDepth 100000 in
theorem w_X7_takeBack_17 {p : Program} {l : Launch} {e : Env} {s : State} {m : MethodId} {args : Array Value} {below : List Frame} {meth : Method} {c : Code} {G : mm_G} (hcx : mm_cx c_X7_takeBack none 4 RX7 G p s m args meth c) (Q : mm_I → mm_L → Prop) (K : Int32 → Int32 → mm_I → mm_L → Prop) : ∀ (n9 : Nat) (x1 : Int32) (x2 : Int32) (x3 : Int32) (I : mm_I) (L : mm_L)  (H : Heap) (locs : List Loc) (ls : Array Slot), vc_X7_takeBack_17 n9 x1 x2 x3 I L Q K → mm_PW G I L H → mm_DW G I L → va_S G.2.2.2.1 s.heap H locs → lv_has ls 4 [(0, .ref (G.2.2.1 36)), (1, .int x1), (2, .int x2), (3, .int x3)] → (∀ (x1 : Int32) (x2 : Int32) (I : mm_I) (L : mm_L)  (H : Heap) (locs : List Loc) (ls : Array Slot), K x1 x2 I L → mm_PW G I L H → mm_DW G I L → va_S G.2.2.2.1 s.heap H locs → lv_has ls 4 [(0, .ref (G.2.2.1 36)), (1, .int x1), (2, .int x2)] → W p l e (headSpec w_X7_takeBack rm_X7_takeBack).room s m args below meth c H locs 0 0 (MQ below (mm_qv G Q) args s 0 0 G.2.2.2.1) (F0 m 70 ls [])) → W p l e (headSpec w_X7_takeBack rm_X7_takeBack).room s m args below meth c H locs 0 0 (MQ below (mm_qv G Q) args s 0 0 G.2.2.2.1) (F0 m 17 ls []) := by
  obtain ⟨hx, hb, hr, hlocks, hml, hown, hg, hK, hC⟩ := id hcx
  intro n9
  induction n9 with
  | zero => intro x1 x2 x3 I L H locs ls hv hP hD hS hl kk; exact hv.elim
  | succ n9 ih =>
    intro x1 x2 x3 I L H locs ls hv hP hD hS hl kk
    rw [vc_X7_takeBack_17] at hv
    refine lv_iload_n hx hb d_X7_takeBack_17 rfl (lv_at hl 3 rfl) ?_
    refine lv_iconst (v := 2) hx hb d_X7_takeBack_18 (by decide) ?_
    refine lv_icmp_ge (tgt := 70) hx hb d_X7_takeBack_19 (by decide) (fun hc => ?_) (fun hc => ?_)
    · have hv := hv.1 hc
      exact kk x1 x2 I L  H locs ls hv hP hD hS (lv_sub hl [0, 1, 2] rfl)
    · have hv := hv.2 hc
      refine lv_aload_n hx hb d_X7_takeBack_22 rfl (lv_at hl 0 rfl) ?_
      refine mm_gr (D := G.1) (C := RX7) (T := TX7) (N0 := 21) (r := 50) hx hb hg in_X7 hown hK hP (t := 36) (by decide) rfl rfl 15 (by decide) (hg _ k_291) (fun _ h9 => h9) rfl d_X7_takeBack_23 ?_
      refine lv_iload_n hx hb d_X7_takeBack_26 rfl (lv_at hl 1 rfl) ?_
      refine lv_bipush (v := 6) hx hb d_X7_takeBack_27 (by decide) ?_
      refine lv_imul hx hb d_X7_takeBack_29 ?_
      refine lv_iload_n hx hb d_X7_takeBack_30 rfl (lv_at hl 2 rfl) ?_
      refine lv_iadd hx hb d_X7_takeBack_31 ?_
      obtain ⟨h808, hv⟩ := hv
      refine mm_zald (D := G.1) hx hb hK hP (t := 50) (by decide) rfl rfl h808 d_X7_takeBack_32 ?_
      refine lv_if_eq (tgt := 70) hx hb d_X7_takeBack_33 (by decide) (fun hc => ?_) (fun hc => ?_)
      · have hv := hv.1 hc
        exact kk x1 x2 I L  H locs ls hv hP hD hS (lv_sub hl [0, 1, 2] rfl)
      · have hv := hv.2 hc
        refine lv_aload_n hx hb d_X7_takeBack_36 rfl (lv_at hl 0 rfl) ?_
        refine mm_gr (D := G.1) (C := RX7) (T := TX7) (N0 := 21) (r := 53) hx hb hg in_X7 hown hK hP (t := 36) (by decide) rfl rfl 18 (by decide) (hg _ k_272) (fun _ h9 => h9) rfl d_X7_takeBack_37 ?_
        refine lv_iload_n hx hb d_X7_takeBack_40 rfl (lv_at hl 2 rfl) ?_
        refine lv_iconst (v := 2) hx hb d_X7_takeBack_41 (by decide) ?_
        refine lv_imul hx hb d_X7_takeBack_42 ?_
        refine lv_iload_n hx hb d_X7_takeBack_43 rfl (lv_at hl 3 rfl) ?_
        refine lv_iadd hx hb d_X7_takeBack_44 ?_
        refine lv_dup2_11 hx hb d_X7_takeBack_45 rfl rfl ?_
        obtain ⟨h809, hv⟩ := hv
        refine mm_lald (D := G.1) hx hb hK hP (t := 53) (by decide) rfl rfl h809 d_X7_takeBack_46 ?_
        refine lv_aload_n hx hb d_X7_takeBack_47 rfl (lv_at hl 0 rfl) ?_
        refine mm_gr (D := G.1) (C := RX7) (T := TX7) (N0 := 21) (r := 52) hx hb hg in_X7 hown hK hP (t := 36) (by decide) rfl rfl 17 (by decide) (hg _ k_292) (fun _ h9 => h9) rfl d_X7_takeBack_48 ?_
        refine lv_iload_n hx hb d_X7_takeBack_51 rfl (lv_at hl 1 rfl) ?_
        refine lv_bipush (v := 6) hx hb d_X7_takeBack_52 (by decide) ?_
        refine lv_imul hx hb d_X7_takeBack_54 ?_
        refine lv_iload_n hx hb d_X7_takeBack_55 rfl (lv_at hl 2 rfl) ?_
        refine lv_iadd hx hb d_X7_takeBack_56 ?_
        refine lv_iconst (v := 3) hx hb d_X7_takeBack_57 (by decide) ?_
        refine lv_imul hx hb d_X7_takeBack_58 ?_
        refine lv_iload_n hx hb d_X7_takeBack_59 rfl (lv_at hl 3 rfl) ?_
        refine lv_iadd hx hb d_X7_takeBack_60 ?_
        obtain ⟨h810, hv⟩ := hv
        refine mm_lald (D := G.1) hx hb hK hP (t := 52) (by decide) rfl rfl h810 d_X7_takeBack_61 ?_
        refine lv_lsub hx hb d_X7_takeBack_62 ?_
        obtain ⟨h811, hv⟩ := hv
        refine mm_last (D := G.1) hx hb hK hP hD hS (t := 53) (by decide) rfl rfl h811 d_X7_takeBack_63 (fun H locs hP hD hS => ?_)
        refine lv_iinc (v := (x3 + 1)) (lv' := [(3, .int (x3 + 1)), (0, .ref (G.2.2.1 36)), (1, .int x1), (2, .int x2)]) hx hb d_X7_takeBack_64 hl (k := 3) rfl (by rfl) (by decide) rfl (fun ls hl => ?_)
        refine lv_goto (tgt := 17) hx hb d_X7_takeBack_67 (by decide) ?_
        exact ih x1 x2 (x3 + 1) I (mm_uL L 53 (((x2 * 2) + x3)).toNatClampNeg ((L 53 (((x2 * 2) + x3)).toNatClampNeg) - (L 52 (((((x1 * 6) + x2) * 3) + x3)).toNatClampNeg)))  H locs ls hv hP hD hS (lv_sub hl [1, 2, 3, 0] rfl) kk
set_option maxHeartbeats 4000000 in
set_option maxRecDepth 100000 in
theorem w_X7_takeBack_9 {p : Program} {l : Launch} {e : Env} {s : State} {m : MethodId} {args : Array Value} {below : List Frame} {meth : Method} {c : Code} {G : mm_G} (hcx : mm_cx c_X7_takeBack none 4 RX7 G p s m args meth c) (Q : mm_I → mm_L → Prop) : ∀ (n9 : Nat) (x1 : Int32) (x2 : Int32) (I : mm_I) (L : mm_L)  (H : Heap) (locs : List Loc) (ls : Array Slot), vc_X7_takeBack_9 n9 x1 x2 I L Q → mm_PW G I L H → mm_DW G I L → va_S G.2.2.2.1 s.heap H locs → lv_has ls 4 [(0, .ref (G.2.2.1 36)), (1, .int x1), (2, .int x2)] → W p l e (headSpec w_X7_takeBack rm_X7_takeBack).room s m args below meth c H locs 0 0 (MQ below (mm_qv G Q) args s 0 0 G.2.2.2.1) (F0 m 9 ls []) := by
  obtain ⟨hx, hb, hr, hlocks, hml, hown, hg, hK, hC⟩ := id hcx
  intro n9
  induction n9 with
  | zero => intro x1 x2 I L H locs ls hv hP hD hS hl; exact hv.elim
  | succ n9 ih =>
    intro x1 x2 I L H locs ls hv hP hD hS hl
    rw [vc_X7_takeBack_9] at hv
    refine lv_iload_n hx hb d_X7_takeBack_9 rfl (lv_at hl 2 rfl) ?_
    refine lv_bipush (v := 6) hx hb d_X7_takeBack_10 (by decide) ?_
    refine lv_icmp_ge (tgt := 76) hx hb d_X7_takeBack_12 (by decide) (fun hc => ?_) (fun hc => ?_)
    · have hv := hv.1 hc
      exact W.vret hx hb hr (fun t ht hW => ⟨⟨(I, L), rfl, hv, mm_mv ht hP⟩, hS.F ht⟩) hS.2.2 d_X7_takeBack_76
    · have hv := hv.2 hc
      refine lv_iconst (v := 0) hx hb d_X7_takeBack_15 (by decide) ?_
      refine lv_istore_n (lv' := [(3, .int 0), (0, .ref (G.2.2.1 36)), (1, .int x1), (2, .int x2)]) hx hb d_X7_takeBack_16 rfl hl (by decide) rfl (fun ls hl => ?_)
      obtain ⟨n, hv⟩ := hv
      refine w_X7_takeBack_17 hcx Q _ n x1 x2 0 I L  H locs ls hv hP hD hS (lv_sub hl [1, 2, 3, 0] rfl) (fun x1 x2 I L H locs ls hv hP hD hS hl => ?_)
      try dsimp only at hv
      refine lv_iinc (v := (x2 + 1)) (lv' := [(2, .int (x2 + 1)), (0, .ref (G.2.2.1 36)), (1, .int x1)]) hx hb d_X7_takeBack_70 hl (k := 2) rfl (by rfl) (by decide) rfl (fun ls hl => ?_)
      refine lv_goto (tgt := 9) hx hb d_X7_takeBack_73 (by decide) ?_
      exact ih x1 (x2 + 1) I L  H locs ls hv hP hD hS (lv_sub hl [1, 2, 0] rfl)
set_option maxHeartbeats 4000000 in
set_option maxRecDepth 100000 in
theorem w_X7_takeBack_0 {p : Program} {l : Launch} {e : Env} {s : State} {m : MethodId} {args : Array Value} {below : List Frame} {meth : Method} {c : Code} {G : mm_G} (hcx : mm_cx c_X7_takeBack none 4 RX7 G p s m args meth c) (x1 : Int32) (I : mm_I) (L : mm_L) (Q : mm_I → mm_L → Prop)  (hv : vc_X7_takeBack_0 x1 I L Q) {H : Heap} {locs : List Loc} (hP : mm_PW G I L H) (hD : mm_DW G I L) (hS : va_S G.2.2.2.1 s.heap H locs) {ls : Array Slot} (hl : lv_has ls 4 [(0, .ref (G.2.2.1 36)), (1, .int x1)]) : W p l e (headSpec w_X7_takeBack rm_X7_takeBack).room s m args below meth c H locs 0 0 (MQ below (mm_qv G Q) args s 0 0 G.2.2.2.1) (F0 m 0 ls []) := by
  obtain ⟨hx, hb, hr, hlocks, hml, hown, hg, hK, hC⟩ := id hcx
  unfold vc_X7_takeBack_0 at hv
  refine lv_aload_n hx hb d_X7_takeBack_0 rfl (lv_at hl 0 rfl) ?_
  refine mm_gr (D := G.1) (C := RX7) (T := TX7) (N0 := 21) (r := 49) hx hb hg in_X7 hown hK hP (t := 36) (by decide) rfl rfl 14 (by decide) (hg _ k_293) (fun _ h9 => h9) rfl d_X7_takeBack_1 ?_
  refine lv_iload_n hx hb d_X7_takeBack_4 rfl (lv_at hl 1 rfl) ?_
  refine lv_iconst (v := 1) hx hb d_X7_takeBack_5 (by decide) ?_
  obtain ⟨h807, hv⟩ := hv
  refine mm_zast (D := G.1) hx hb hK hP hD hS (t := 49) (by decide) rfl rfl h807 d_X7_takeBack_6 (fun H locs hP hD hS => ?_)
  refine lv_iconst (v := 0) hx hb d_X7_takeBack_7 (by decide) ?_
  refine lv_istore_n (lv' := [(2, .int 0), (0, .ref (G.2.2.1 36)), (1, .int x1)]) hx hb d_X7_takeBack_8 rfl hl (by decide) rfl (fun ls hl => ?_)
  obtain ⟨n, hv⟩ := hv
  exact w_X7_takeBack_9 hcx Q n x1 0 (mm_uI I 49 x1.toNatClampNeg (vp_nar .boolean 1)) L  H locs ls hv hP hD hS (lv_sub hl [1, 2, 0] rfl)
abbrev vc_X7_takeBack (x1 : Int32) (I : mm_I) (L : mm_L) (Q : mm_I → mm_L → Prop) : Prop := vc_X7_takeBack_0 x1 I L Q
set_option maxHeartbeats 4000000 in
set_option maxRecDepth 100000 in
theorem m_X7_takeBack (l : Launch) (G : mm_G) (x1 : Int32) (I : mm_I) (L : mm_L) (Q : mm_I → mm_L → Prop)  (hv : vc_X7_takeBack x1 I L Q) : Met l y_X7_takeBack w_X7_takeBack rm_X7_takeBack (mm_pre G [.ref (G.2.2.1 36), .int x1] I L) (mm_qv G Q) 0 0 G.2.2.2.1 := by
  refine Met.ofW (cc := c_X7_takeBack) (maxL := 4) (ret := none) (by decide) rfl ?_
  intro p e s m args below meth c s₁ B hml hw
  obtain ⟨rfl, hP, hK, hD, hC⟩ := hw
  have hts := atoms_spec (ws := w_X7_takeBack) B.pre
  have hown : s.vm.findClass RX7 = some m.cls := findClass_of_methodNamed B.named
  have hl := lv_entry ([.ref (G.2.2.1 36), .int x1]) (n := 4) (Nat.le_of_ble_eq_true rfl)
  rw [lg_entry_eq]
  generalize (lg_sl ([.ref (G.2.2.1 36), .int x1]) ++ List.replicate (4 - (lg_sl ([.ref (G.2.2.1 36), .int x1])).length) Slot.unset).toArray = ls at hl ⊢
  have hl : lv_has ls 4 [(0, .ref (G.2.2.1 36)), (1, .int x1)] := hl
  exact w_X7_takeBack_0 ⟨B.exec, B.bytes, B.returns, B.notSynchronized, hml, hown, fun w h => hts w (List.mem_cons_of_mem _ h), hK, hC⟩ x1 I L Q  hv hP hD va_S.rf hl
abbrev rm_X7_back : Room := { frames := 1, cells := 0, slots := 0, locals := 23 }
def vc_X7_back_0 (x1 : Int32) (I : mm_I) (L : mm_L) (Q : Int32 → mm_I → mm_L → Prop) : Prop :=
  (x1 < 0 → Q (-1) I L) ∧ (¬ x1 < 0 → ((I 36 1) ≤ x1 → Q (-1) I L) ∧ (¬ (I 36 1) ≤ x1 → vp_in x1 16 ∧ ((I 49 x1.toNatClampNeg) = 0 → vc_X7_takeBack x1 I L (fun I813 L814 => Q 0 I813 L814)) ∧ (¬ (I 49 x1.toNatClampNeg) = 0 → Q (-1) I L)))
set_option maxHeartbeats 4000000 in
set_option maxRecDepth 100000 in
theorem w_X7_back_0 {p : Program} {l : Launch} {e : Env} {s : State} {m : MethodId} {args : Array Value} {below : List Frame} {meth : Method} {c : Code} {G : mm_G} (hcx : mm_cx c_X7_back (some .int) 2 RX7 G p s m args meth c) (x1 : Int32) (I : mm_I) (L : mm_L) (Q : Int32 → mm_I → mm_L → Prop)  (hv : vc_X7_back_0 x1 I L Q) {H : Heap} {locs : List Loc} (hP : mm_PW G I L H) (hD : mm_DW G I L) (hS : va_S G.2.2.2.1 s.heap H locs) {ls : Array Slot} (hl : lv_has ls 2 [(0, .ref (G.2.2.1 36)), (1, .int x1)]) : W p l e (headSpec w_X7_back rm_X7_back).room s m args below meth c H locs 0 0 (MQ below (mm_qi G Q) args s 0 0 G.2.2.2.1) (F0 m 0 ls []) := by
  obtain ⟨hx, hb, hr, hlocks, hml, hown, hg, hK, hC⟩ := id hcx
  unfold vc_X7_back_0 at hv
  refine lv_iload_n hx hb d_X7_back_0 rfl (lv_at hl 1 rfl) ?_
  refine lv_if_lt (tgt := 21) hx hb d_X7_back_1 (by decide) (fun hc => ?_) (fun hc => ?_)
  · have hv := hv.1 hc
    refine lv_iconst (v := (-1)) hx hb d_X7_back_21 (by decide) ?_
    exact W.iret (v := (-1)) hx hb hr (fun t ht hW => ⟨⟨(-1), (I, L), rfl, hv, mm_mv ht hP⟩, hS.F ht⟩) hS.2.2 d_X7_back_22
  · have hv := hv.2 hc
    refine lv_iload_n hx hb d_X7_back_4 rfl (lv_at hl 1 rfl) ?_
    refine lv_aload_n hx hb d_X7_back_5 rfl (lv_at hl 0 rfl) ?_
    refine mm_gi (D := G.1) (C := RX7) (T := TX7) (N0 := 21) hx hb hg in_X7 hown hK hP (t := 36) (by decide) rfl rfl 1 (by decide) (hg _ k_298) (fun _ h9 => h9) rfl d_X7_back_6 ?_
    refine lv_icmp_ge (tgt := 21) hx hb d_X7_back_9 (by decide) (fun hc => ?_) (fun hc => ?_)
    · have hv := hv.1 hc
      refine lv_iconst (v := (-1)) hx hb d_X7_back_21 (by decide) ?_
      exact W.iret (v := (-1)) hx hb hr (fun t ht hW => ⟨⟨(-1), (I, L), rfl, hv, mm_mv ht hP⟩, hS.F ht⟩) hS.2.2 d_X7_back_22
    · have hv := hv.2 hc
      refine lv_aload_n hx hb d_X7_back_12 rfl (lv_at hl 0 rfl) ?_
      refine mm_gr (D := G.1) (C := RX7) (T := TX7) (N0 := 21) (r := 49) hx hb hg in_X7 hown hK hP (t := 36) (by decide) rfl rfl 14 (by decide) (hg _ k_293) (fun _ h9 => h9) rfl d_X7_back_13 ?_
      refine lv_iload_n hx hb d_X7_back_16 rfl (lv_at hl 1 rfl) ?_
      obtain ⟨h812, hv⟩ := hv
      refine mm_zald (D := G.1) hx hb hK hP (t := 49) (by decide) rfl rfl h812 d_X7_back_17 ?_
      refine lv_if_eq (tgt := 23) hx hb d_X7_back_18 (by decide) (fun hc => ?_) (fun hc => ?_)
      · have hv := hv.1 hc
        refine lv_aload_n hx hb d_X7_back_23 rfl (lv_at hl 0 rfl) ?_
        refine lv_iload_n hx hb d_X7_back_24 rfl (lv_at hl 1 rfl) ?_
        refine va_callv (va_runV (As := [.int x1]) (rest := []) ⟨hx, hb, hml, hown, hg⟩ (m_X7_takeBack l G x1 I L _  hv) (cwV 1 hg (mm_gV k_302 k_303 k_304 k_223 kc_X7_takeBack) rfl rfl rfl (by decide +kernel) ⟨Nat.le_of_ble_eq_true rfl, Nat.le_of_ble_eq_true rfl⟩) ⟨mm_blind, mm_recv hK hP (t := 36) (by decide) rfl rfl, fun U hU hW => mm_call hP hK hD hC hU hS hW⟩ rfl rfl hl.1 rfl (lv_room (Nat.le_of_ble_eq_true rfl)) d_X7_back_25 ⟨Nat.zero_le _, Nat.zero_le _⟩) hS (fun q _ h => h) (fun q h => h) (fun u t H locs ht hvm hv hP hz1 hk1 hS => ?_)
        obtain ⟨I813, L814⟩ := u
        dsimp only at hv hP
        rw [ht] at hP
        have hD : mm_DW G I813 L814 := mm_D_any hD
        refine lv_iconst (v := 0) hx hb d_X7_back_28 (by decide) ?_
        exact W.iret (v := 0) hx hb hr (fun t ht hW => ⟨⟨0, (I813, L814), rfl, hv, mm_mv ht hP⟩, hS.F ht⟩) hS.2.2 d_X7_back_29
      · have hv := hv.2 hc
        refine lv_iconst (v := (-1)) hx hb d_X7_back_21 (by decide) ?_
        exact W.iret (v := (-1)) hx hb hr (fun t ht hW => ⟨⟨(-1), (I, L), rfl, hv, mm_mv ht hP⟩, hS.F ht⟩) hS.2.2 d_X7_back_22
abbrev vc_X7_back (x1 : Int32) (I : mm_I) (L : mm_L) (Q : Int32 → mm_I → mm_L → Prop) : Prop := vc_X7_back_0 x1 I L Q
set_option maxHeartbeats 4000000 in
set_option maxRecDepth 100000 in
theorem m_X7_back (l : Launch) (G : mm_G) (x1 : Int32) (I : mm_I) (L : mm_L) (Q : Int32 → mm_I → mm_L → Prop)  (hv : vc_X7_back x1 I L Q) : Met l y_X7_back w_X7_back rm_X7_back (mm_pre G [.ref (G.2.2.1 36), .int x1] I L) (mm_qi G Q) 0 0 G.2.2.2.1 := by
  refine Met.ofW (cc := c_X7_back) (maxL := 2) (ret := (some .int)) (by decide) rfl ?_
  intro p e s m args below meth c s₁ B hml hw
  obtain ⟨rfl, hP, hK, hD, hC⟩ := hw
  have hts := atoms_spec (ws := w_X7_back) B.pre
  have hown : s.vm.findClass RX7 = some m.cls := findClass_of_methodNamed B.named
  have hl := lv_entry ([.ref (G.2.2.1 36), .int x1]) (n := 2) (Nat.le_of_ble_eq_true rfl)
  rw [lg_entry_eq]
  generalize (lg_sl ([.ref (G.2.2.1 36), .int x1]) ++ List.replicate (2 - (lg_sl ([.ref (G.2.2.1 36), .int x1])).length) Slot.unset).toArray = ls at hl ⊢
  have hl : lv_has ls 2 [(0, .ref (G.2.2.1 36)), (1, .int x1)] := hl
  exact w_X7_back_0 ⟨B.exec, B.bytes, B.returns, B.notSynchronized, hml, hown, fun w h => hts w (List.mem_cons_of_mem _ h), hK, hC⟩ x1 I L Q  hv hP hD va_S.rf hl
abbrev rm_X7_slips : Room := { frames := 0, cells := 0, slots := 0, locals := 0 }
def vc_X7_slips_4 : Nat → Int32 → Int32 → Int32 → mm_I → mm_L → (Int32 → mm_I → mm_L → Prop) → Prop
  | 0, _, _, _, _, _, _ => False
  | n9 + 1, x1, x2, x3, I, L, Q => (6 ≤ x3 → Q x2 I L) ∧ (¬ 6 ≤ x3 → vp_in ((x1 * 6) + x3) 96 ∧ ((I 50 (((x1 * 6) + x3)).toNatClampNeg) = 0 → vc_X7_slips_4 n9 x1 x2 (x3 + 1) I L Q) ∧ (¬ (I 50 (((x1 * 6) + x3)).toNatClampNeg) = 0 → vc_X7_slips_4 n9 x1 (x2 + 1) (x3 + 1) I L Q))
def vc_X7_slips_0 (x1 : Int32) (I : mm_I) (L : mm_L) (Q : Int32 → mm_I → mm_L → Prop) : Prop :=
  ∃ n, vc_X7_slips_4 n x1 0 0 I L Q
set_option maxHeartbeats 4000000 in
set_option maxRecDepth 100000 in
theorem w_X7_slips_4 {p : Program} {l : Launch} {e : Env} {s : State} {m : MethodId} {args : Array Value} {below : List Frame} {meth : Method} {c : Code} {G : mm_G} (hcx : mm_cx c_X7_slips (some .int) 4 RX7 G p s m args meth c) (Q : Int32 → mm_I → mm_L → Prop) : ∀ (n9 : Nat) (x1 : Int32) (x2 : Int32) (x3 : Int32) (I : mm_I) (L : mm_L)  (H : Heap) (locs : List Loc) (ls : Array Slot), vc_X7_slips_4 n9 x1 x2 x3 I L Q → mm_PW G I L H → mm_DW G I L → va_S G.2.2.2.1 s.heap H locs → lv_has ls 4 [(0, .ref (G.2.2.1 36)), (1, .int x1), (2, .int x2), (3, .int x3)] → W p l e (headSpec w_X7_slips rm_X7_slips).room s m args below meth c H locs 0 0 (MQ below (mm_qi G Q) args s 0 0 G.2.2.2.1) (F0 m 4 ls []) := by
  obtain ⟨hx, hb, hr, hlocks, hml, hown, hg, hK, hC⟩ := id hcx
  intro n9
  induction n9 with
  | zero => intro x1 x2 x3 I L H locs ls hv hP hD hS hl; exact hv.elim
  | succ n9 ih =>
    intro x1 x2 x3 I L H locs ls hv hP hD hS hl
    rw [vc_X7_slips_4] at hv
    refine lv_iload_n hx hb d_X7_slips_4 rfl (lv_at hl 3 rfl) ?_
    refine lv_bipush (v := 6) hx hb d_X7_slips_5 (by decide) ?_
    refine lv_icmp_ge (tgt := 33) hx hb d_X7_slips_7 (by decide) (fun hc => ?_) (fun hc => ?_)
    · have hv := hv.1 hc
      refine lv_iload_n hx hb d_X7_slips_33 rfl (lv_at hl 2 rfl) ?_
      exact W.iret (v := x2) hx hb hr (fun t ht hW => ⟨⟨x2, (I, L), rfl, hv, mm_mv ht hP⟩, hS.F ht⟩) hS.2.2 d_X7_slips_34
    · have hv := hv.2 hc
      refine lv_aload_n hx hb d_X7_slips_10 rfl (lv_at hl 0 rfl) ?_
      refine mm_gr (D := G.1) (C := RX7) (T := TX7) (N0 := 21) (r := 50) hx hb hg in_X7 hown hK hP (t := 36) (by decide) rfl rfl 15 (by decide) (hg _ k_291) (fun _ h9 => h9) rfl d_X7_slips_11 ?_
      refine lv_iload_n hx hb d_X7_slips_14 rfl (lv_at hl 1 rfl) ?_
      refine lv_bipush (v := 6) hx hb d_X7_slips_15 (by decide) ?_
      refine lv_imul hx hb d_X7_slips_17 ?_
      refine lv_iload_n hx hb d_X7_slips_18 rfl (lv_at hl 3 rfl) ?_
      refine lv_iadd hx hb d_X7_slips_19 ?_
      obtain ⟨h816, hv⟩ := hv
      refine mm_zald (D := G.1) hx hb hK hP (t := 50) (by decide) rfl rfl h816 d_X7_slips_20 ?_
      refine lv_if_eq (tgt := 27) hx hb d_X7_slips_21 (by decide) (fun hc => ?_) (fun hc => ?_)
      · have hv := hv.1 hc
        refine lv_iinc (v := (x3 + 1)) (lv' := [(3, .int (x3 + 1)), (0, .ref (G.2.2.1 36)), (1, .int x1), (2, .int x2)]) hx hb d_X7_slips_27 hl (k := 3) rfl (by rfl) (by decide) rfl (fun ls hl => ?_)
        refine lv_goto (tgt := 4) hx hb d_X7_slips_30 (by decide) ?_
        exact ih x1 x2 (x3 + 1) I L  H locs ls hv hP hD hS (lv_sub hl [1, 2, 3, 0] rfl)
      · have hv := hv.2 hc
        refine lv_iinc (v := (x2 + 1)) (lv' := [(2, .int (x2 + 1)), (0, .ref (G.2.2.1 36)), (1, .int x1), (3, .int x3)]) hx hb d_X7_slips_24 hl (k := 2) rfl (by rfl) (by decide) rfl (fun ls hl => ?_)
        refine lv_iinc (v := (x3 + 1)) (lv' := [(3, .int (x3 + 1)), (2, .int (x2 + 1)), (0, .ref (G.2.2.1 36)), (1, .int x1)]) hx hb d_X7_slips_27 hl (k := 3) rfl (by rfl) (by decide) rfl (fun ls hl => ?_)
        refine lv_goto (tgt := 4) hx hb d_X7_slips_30 (by decide) ?_
        exact ih x1 (x2 + 1) (x3 + 1) I L  H locs ls hv hP hD hS (lv_sub hl [2, 3, 1, 0] rfl)
set_option maxHeartbeats 4000000 in
set_option maxRecDepth 100000 in
theorem w_X7_slips_0 {p : Program} {l : Launch} {e : Env} {s : State} {m : MethodId} {args : Array Value} {below : List Frame} {meth : Method} {c : Code} {G : mm_G} (hcx : mm_cx c_X7_slips (some .int) 4 RX7 G p s m args meth c) (x1 : Int32) (I : mm_I) (L : mm_L) (Q : Int32 → mm_I → mm_L → Prop)  (hv : vc_X7_slips_0 x1 I L Q) {H : Heap} {locs : List Loc} (hP : mm_PW G I L H) (hD : mm_DW G I L) (hS : va_S G.2.2.2.1 s.heap H locs) {ls : Array Slot} (hl : lv_has ls 4 [(0, .ref (G.2.2.1 36)), (1, .int x1)]) : W p l e (headSpec w_X7_slips rm_X7_slips).room s m args below meth c H locs 0 0 (MQ below (mm_qi G Q) args s 0 0 G.2.2.2.1) (F0 m 0 ls []) := by
  obtain ⟨hx, hb, hr, hlocks, hml, hown, hg, hK, hC⟩ := id hcx
  unfold vc_X7_slips_0 at hv
  refine lv_iconst (v := 0) hx hb d_X7_slips_0 (by decide) ?_
  refine lv_istore_n (lv' := [(2, .int 0), (0, .ref (G.2.2.1 36)), (1, .int x1)]) hx hb d_X7_slips_1 rfl hl (by decide) rfl (fun ls hl => ?_)
  refine lv_iconst (v := 0) hx hb d_X7_slips_2 (by decide) ?_
  refine lv_istore_n (lv' := [(3, .int 0), (2, .int 0), (0, .ref (G.2.2.1 36)), (1, .int x1)]) hx hb d_X7_slips_3 rfl hl (by decide) rfl (fun ls hl => ?_)
  obtain ⟨n, hv⟩ := hv
  exact w_X7_slips_4 hcx Q n x1 0 0 I L  H locs ls hv hP hD hS (lv_sub hl [2, 3, 1, 0] rfl)
abbrev vc_X7_slips (x1 : Int32) (I : mm_I) (L : mm_L) (Q : Int32 → mm_I → mm_L → Prop) : Prop := vc_X7_slips_0 x1 I L Q
set_option maxHeartbeats 4000000 in
set_option maxRecDepth 100000 in
theorem m_X7_slips (l : Launch) (G : mm_G) (x1 : Int32) (I : mm_I) (L : mm_L) (Q : Int32 → mm_I → mm_L → Prop)  (hv : vc_X7_slips x1 I L Q) : Met l y_X7_slips w_X7_slips rm_X7_slips (mm_pre G [.ref (G.2.2.1 36), .int x1] I L) (mm_qi G Q) 0 0 G.2.2.2.1 := by
  refine Met.ofW (cc := c_X7_slips) (maxL := 4) (ret := (some .int)) (by decide) rfl ?_
  intro p e s m args below meth c s₁ B hml hw
  obtain ⟨rfl, hP, hK, hD, hC⟩ := hw
  have hts := atoms_spec (ws := w_X7_slips) B.pre
  have hown : s.vm.findClass RX7 = some m.cls := findClass_of_methodNamed B.named
  have hl := lv_entry ([.ref (G.2.2.1 36), .int x1]) (n := 4) (Nat.le_of_ble_eq_true rfl)
  rw [lg_entry_eq]
  generalize (lg_sl ([.ref (G.2.2.1 36), .int x1]) ++ List.replicate (4 - (lg_sl ([.ref (G.2.2.1 36), .int x1])).length) Slot.unset).toArray = ls at hl ⊢
  have hl : lv_has ls 4 [(0, .ref (G.2.2.1 36)), (1, .int x1)] := hl
  exact w_X7_slips_0 ⟨B.exec, B.bytes, B.returns, B.notSynchronized, hml, hown, fun w h => hts w (List.mem_cons_of_mem _ h), hK, hC⟩ x1 I L Q  hv hP hD va_S.rf hl
abbrev rm_X7_again : Room := { frames := 7, cells := 0, slots := 0, locals := 167 }
def vc_X7_again_0 (x1 : Int32) (I : mm_I) (L : mm_L) (Q : Int32 → mm_I → mm_L → Prop) : Prop :=
  (x1 < 0 → Q (-1) I L) ∧ (¬ x1 < 0 → (¬ x1 = ((I 36 1) - 1) → Q (-1) I L) ∧ (x1 = ((I 36 1) - 1) → vp_in x1 16 ∧ ((I 49 x1.toNatClampNeg) = 0 → vc_X7_takeBack x1 I L (fun I818 L819 => vc_X7_payAll x1 I818 L819 (fun I821 L822 => vc_X7_slips x1 I821 L822 (fun r826 I824 L825 => Q r826 I824 L825)))) ∧ (¬ (I 49 x1.toNatClampNeg) = 0 → Q (-1) I L)))
set_option maxHeartbeats 4000000 in
set_option maxRecDepth 100000 in
theorem w_X7_again_0 {p : Program} {l : Launch} {e : Env} {s : State} {m : MethodId} {args : Array Value} {below : List Frame} {meth : Method} {c : Code} {G : mm_G} (hcx : mm_cx c_X7_again (some .int) 2 RX7 G p s m args meth c) (x1 : Int32) (I : mm_I) (L : mm_L) (Q : Int32 → mm_I → mm_L → Prop)  (hv : vc_X7_again_0 x1 I L Q) {H : Heap} {locs : List Loc} (hP : mm_PW G I L H) (hD : mm_DW G I L) (hS : va_S G.2.2.2.1 s.heap H locs) {ls : Array Slot} (hl : lv_has ls 2 [(0, .ref (G.2.2.1 36)), (1, .int x1)]) : W p l e (headSpec w_X7_again rm_X7_again).room s m args below meth c H locs 0 0 (MQ below (mm_qi G Q) args s 0 0 G.2.2.2.1) (F0 m 0 ls []) := by
  obtain ⟨hx, hb, hr, hlocks, hml, hown, hg, hK, hC⟩ := id hcx
  unfold vc_X7_again_0 at hv
  refine lv_iload_n hx hb d_X7_again_0 rfl (lv_at hl 1 rfl) ?_
  refine lv_if_lt (tgt := 23) hx hb d_X7_again_1 (by decide) (fun hc => ?_) (fun hc => ?_)
  · have hv := hv.1 hc
    refine lv_iconst (v := (-1)) hx hb d_X7_again_23 (by decide) ?_
    exact W.iret (v := (-1)) hx hb hr (fun t ht hW => ⟨⟨(-1), (I, L), rfl, hv, mm_mv ht hP⟩, hS.F ht⟩) hS.2.2 d_X7_again_24
  · have hv := hv.2 hc
    refine lv_iload_n hx hb d_X7_again_4 rfl (lv_at hl 1 rfl) ?_
    refine lv_aload_n hx hb d_X7_again_5 rfl (lv_at hl 0 rfl) ?_
    refine mm_gi (D := G.1) (C := RX7) (T := TX7) (N0 := 21) hx hb hg in_X7 hown hK hP (t := 36) (by decide) rfl rfl 1 (by decide) (hg _ k_298) (fun _ h9 => h9) rfl d_X7_again_6 ?_
    refine lv_iconst (v := 1) hx hb d_X7_again_9 (by decide) ?_
    refine lv_isub hx hb d_X7_again_10 ?_
    refine lv_icmp_ne (tgt := 23) hx hb d_X7_again_11 (by decide) (fun hc => ?_) (fun hc => ?_)
    · have hv := hv.1 hc
      refine lv_iconst (v := (-1)) hx hb d_X7_again_23 (by decide) ?_
      exact W.iret (v := (-1)) hx hb hr (fun t ht hW => ⟨⟨(-1), (I, L), rfl, hv, mm_mv ht hP⟩, hS.F ht⟩) hS.2.2 d_X7_again_24
    · have hv := hv.2 hc
      refine lv_aload_n hx hb d_X7_again_14 rfl (lv_at hl 0 rfl) ?_
      refine mm_gr (D := G.1) (C := RX7) (T := TX7) (N0 := 21) (r := 49) hx hb hg in_X7 hown hK hP (t := 36) (by decide) rfl rfl 14 (by decide) (hg _ k_293) (fun _ h9 => h9) rfl d_X7_again_15 ?_
      refine lv_iload_n hx hb d_X7_again_18 rfl (lv_at hl 1 rfl) ?_
      obtain ⟨h817, hv⟩ := hv
      refine mm_zald (D := G.1) hx hb hK hP (t := 49) (by decide) rfl rfl h817 d_X7_again_19 ?_
      refine lv_if_eq (tgt := 25) hx hb d_X7_again_20 (by decide) (fun hc => ?_) (fun hc => ?_)
      · have hv := hv.1 hc
        refine lv_aload_n hx hb d_X7_again_25 rfl (lv_at hl 0 rfl) ?_
        refine lv_iload_n hx hb d_X7_again_26 rfl (lv_at hl 1 rfl) ?_
        refine va_callv (va_runV (As := [.int x1]) (rest := []) ⟨hx, hb, hml, hown, hg⟩ (m_X7_takeBack l G x1 I L _  hv) (cwV 1 hg (mm_gV k_302 k_303 k_304 k_223 kc_X7_takeBack) rfl rfl rfl (by decide +kernel) ⟨Nat.le_of_ble_eq_true rfl, Nat.le_of_ble_eq_true rfl⟩) ⟨mm_blind, mm_recv hK hP (t := 36) (by decide) rfl rfl, fun U hU hW => mm_call hP hK hD hC hU hS hW⟩ rfl rfl hl.1 rfl (lv_room (Nat.le_of_ble_eq_true rfl)) d_X7_again_27 ⟨Nat.zero_le _, Nat.zero_le _⟩) hS (fun q _ h => h) (fun q h => h) (fun u t H locs ht hvm hv hP hz1 hk1 hS => ?_)
        obtain ⟨I818, L819⟩ := u
        dsimp only at hv hP
        rw [ht] at hP
        have hD : mm_DW G I818 L819 := mm_D_any hD
        refine lv_aload_n hx hb d_X7_again_30 rfl (lv_at hl 0 rfl) ?_
        refine lv_iload_n hx hb d_X7_again_31 rfl (lv_at hl 1 rfl) ?_
        refine va_callv (va_runV (As := [.int x1]) (rest := []) ⟨hx, hb, hml, hown, hg⟩ (m_X7_payAll l G x1 I818 L819 _  hv) (cwV 1 hg (mm_gV k_299 k_300 k_301 k_223 kc_X7_payAll) rfl rfl rfl (by decide +kernel) ⟨Nat.le_of_ble_eq_true rfl, Nat.le_of_ble_eq_true rfl⟩) ⟨mm_blind, mm_recv hK hP (t := 36) (by decide) rfl rfl, fun U hU hW => mm_call hP hK hD hC hU hS hW⟩ rfl rfl hl.1 rfl (lv_room (Nat.le_of_ble_eq_true rfl)) d_X7_again_32 ⟨Nat.zero_le _, Nat.zero_le _⟩) hS (fun q _ h => h) (fun q h => h) (fun u t H locs ht hvm hv hP hz1 hk1 hS => ?_)
        obtain ⟨I821, L822⟩ := u
        dsimp only at hv hP
        rw [ht] at hP
        have hD : mm_DW G I821 L822 := mm_D_any hD
        refine lv_aload_n hx hb d_X7_again_35 rfl (lv_at hl 0 rfl) ?_
        refine lv_iload_n hx hb d_X7_again_36 rfl (lv_at hl 1 rfl) ?_
        refine va_calli (va_runV (As := [.int x1]) (rest := []) ⟨hx, hb, hml, hown, hg⟩ (m_X7_slips l G x1 I821 L822 _  hv) (cwV 1 hg (mm_gV k_305 k_306 k_307 k_223 kc_X7_slips) rfl rfl rfl (by decide +kernel) ⟨Nat.le_of_ble_eq_true rfl, Nat.le_of_ble_eq_true rfl⟩) ⟨mm_blind, mm_recv hK hP (t := 36) (by decide) rfl rfl, fun U hU hW => mm_call hP hK hD hC hU hS hW⟩ rfl rfl hl.1 rfl (lv_room (Nat.le_of_ble_eq_true rfl)) d_X7_again_37 ⟨Nat.zero_le _, Nat.zero_le _⟩) hS (fun q _ h => h) (fun q h => h) (fun r826 u t H locs ht hvm hv hP hz1 hk1 hS => ?_)
        obtain ⟨I824, L825⟩ := u
        dsimp only at hv hP
        rw [ht] at hP
        have hD : mm_DW G I824 L825 := mm_D_any hD
        exact W.iret (v := r826) hx hb hr (fun t ht hW => ⟨⟨r826, (I824, L825), rfl, hv, mm_mv ht hP⟩, hS.F ht⟩) hS.2.2 d_X7_again_40
      · have hv := hv.2 hc
        refine lv_iconst (v := (-1)) hx hb d_X7_again_23 (by decide) ?_
        exact W.iret (v := (-1)) hx hb hr (fun t ht hW => ⟨⟨(-1), (I, L), rfl, hv, mm_mv ht hP⟩, hS.F ht⟩) hS.2.2 d_X7_again_24
abbrev vc_X7_again (x1 : Int32) (I : mm_I) (L : mm_L) (Q : Int32 → mm_I → mm_L → Prop) : Prop := vc_X7_again_0 x1 I L Q
set_option maxHeartbeats 4000000 in
set_option maxRecDepth 100000 in
theorem m_X7_again (l : Launch) (G : mm_G) (x1 : Int32) (I : mm_I) (L : mm_L) (Q : Int32 → mm_I → mm_L → Prop)  (hv : vc_X7_again x1 I L Q) : Met l y_X7_again w_X7_again rm_X7_again (mm_pre G [.ref (G.2.2.1 36), .int x1] I L) (mm_qi G Q) 0 0 G.2.2.2.1 := by
  refine Met.ofW (cc := c_X7_again) (maxL := 2) (ret := (some .int)) (by decide) rfl ?_
  intro p e s m args below meth c s₁ B hml hw
  obtain ⟨rfl, hP, hK, hD, hC⟩ := hw
  have hts := atoms_spec (ws := w_X7_again) B.pre
  have hown : s.vm.findClass RX7 = some m.cls := findClass_of_methodNamed B.named
  have hl := lv_entry ([.ref (G.2.2.1 36), .int x1]) (n := 2) (Nat.le_of_ble_eq_true rfl)
  rw [lg_entry_eq]
  generalize (lg_sl ([.ref (G.2.2.1 36), .int x1]) ++ List.replicate (2 - (lg_sl ([.ref (G.2.2.1 36), .int x1])).length) Slot.unset).toArray = ls at hl ⊢
  have hl : lv_has ls 2 [(0, .ref (G.2.2.1 36)), (1, .int x1)] := hl
  exact w_X7_again_0 ⟨B.exec, B.bytes, B.returns, B.notSynchronized, hml, hown, fun w h => hts w (List.mem_cons_of_mem _ h), hK, hC⟩ x1 I L Q  hv hP hD va_S.rf hl
abbrev rm_X7_slip : Room := { frames := 1, cells := 0, slots := 0, locals := 23 }
def vc_X7_slip_0 (x1 : Int32) (x2 : Int32) (x3 : Int32) (I : mm_I) (L : mm_L) (Q : Int64 → mm_I → mm_L → Prop) : Prop :=
  (x1 < 0 → Q 1000000000000 I L) ∧ (¬ x1 < 0 → ((I 36 1) ≤ x1 → Q 1000000000000 I L) ∧ (¬ (I 36 1) ≤ x1 → vc_X7_out x2 0 5 I L (fun r829 I827 L828 => (¬ r829 = 0 → Q 1000000000000 I827 L828) ∧ (r829 = 0 → vc_X7_out x3 0 2 I827 L828 (fun r832 I830 L831 => (¬ r832 = 0 → Q 1000000000000 I830 L831) ∧ (r832 = 0 → vp_in ((x1 * 6) + x2) 96 ∧ (¬ (I830 50 (((x1 * 6) + x2)).toNatClampNeg) = 0 → vp_in ((((x1 * 6) + x2) * 3) + x3) 288 ∧ Q (L831 52 (((((x1 * 6) + x2) * 3) + x3)).toNatClampNeg) I830 L831) ∧ ((I830 50 (((x1 * 6) + x2)).toNatClampNeg) = 0 → Q 1000000000000 I830 L831)))))))
set_option maxHeartbeats 4000000 in
set_option maxRecDepth 100000 in
theorem w_X7_slip_0 {p : Program} {l : Launch} {e : Env} {s : State} {m : MethodId} {args : Array Value} {below : List Frame} {meth : Method} {c : Code} {G : mm_G} (hcx : mm_cx c_X7_slip (some .long) 4 RX7 G p s m args meth c) (x1 : Int32) (x2 : Int32) (x3 : Int32) (I : mm_I) (L : mm_L) (Q : Int64 → mm_I → mm_L → Prop)  (hv : vc_X7_slip_0 x1 x2 x3 I L Q) {H : Heap} {locs : List Loc} (hP : mm_PW G I L H) (hD : mm_DW G I L) (hS : va_S G.2.2.2.1 s.heap H locs) {ls : Array Slot} (hl : lv_has ls 4 [(0, .ref (G.2.2.1 36)), (1, .int x1), (2, .int x2), (3, .int x3)]) : W p l e (headSpec w_X7_slip rm_X7_slip).room s m args below meth c H locs 0 0 (MQ below (mm_ql G Q) args s 0 0 G.2.2.2.1) (F0 m 0 ls []) := by
  obtain ⟨hx, hb, hr, hlocks, hml, hown, hg, hK, hC⟩ := id hcx
  unfold vc_X7_slip_0 at hv
  refine lv_iload_n hx hb d_X7_slip_0 rfl (lv_at hl 1 rfl) ?_
  refine lv_if_lt (tgt := 46) hx hb d_X7_slip_1 (by decide) (fun hc => ?_) (fun hc => ?_)
  · have hv := hv.1 hc
    refine lv_ldc2 (v := 1000000000000) hx hb hown (hg _ k_284) d_X7_slip_46 ?_
    exact W.lret (v := 1000000000000) hx hb hr (fun t ht hW => ⟨⟨1000000000000, (I, L), rfl, hv, mm_mv ht hP⟩, hS.F ht⟩) hS.2.2 d_X7_slip_49
  · have hv := hv.2 hc
    refine lv_iload_n hx hb d_X7_slip_4 rfl (lv_at hl 1 rfl) ?_
    refine lv_aload_n hx hb d_X7_slip_5 rfl (lv_at hl 0 rfl) ?_
    refine mm_gi (D := G.1) (C := RX7) (T := TX7) (N0 := 21) hx hb hg in_X7 hown hK hP (t := 36) (by decide) rfl rfl 1 (by decide) (hg _ k_298) (fun _ h9 => h9) rfl d_X7_slip_6 ?_
    refine lv_icmp_ge (tgt := 46) hx hb d_X7_slip_9 (by decide) (fun hc => ?_) (fun hc => ?_)
    · have hv := hv.1 hc
      refine lv_ldc2 (v := 1000000000000) hx hb hown (hg _ k_284) d_X7_slip_46 ?_
      exact W.lret (v := 1000000000000) hx hb hr (fun t ht hW => ⟨⟨1000000000000, (I, L), rfl, hv, mm_mv ht hP⟩, hS.F ht⟩) hS.2.2 d_X7_slip_49
    · have hv := hv.2 hc
      refine lv_aload_n hx hb d_X7_slip_12 rfl (lv_at hl 0 rfl) ?_
      refine lv_iload_n hx hb d_X7_slip_13 rfl (lv_at hl 2 rfl) ?_
      refine lv_iconst (v := 0) hx hb d_X7_slip_14 (by decide) ?_
      refine lv_iconst (v := 5) hx hb d_X7_slip_15 (by decide) ?_
      refine va_calli (va_runV (As := [.int x2, .int 0, .int 5]) (rest := []) ⟨hx, hb, hml, hown, hg⟩ (m_X7_out l G x2 0 5 I L _  hv) (cwV 3 hg (mm_gV k_220 k_221 k_222 k_223 kc_X7_out) rfl rfl rfl (by decide +kernel) ⟨Nat.le_of_ble_eq_true rfl, Nat.le_of_ble_eq_true rfl⟩) ⟨mm_blind, mm_recv hK hP (t := 36) (by decide) rfl rfl, fun U hU hW => mm_call hP hK hD hC hU hS hW⟩ rfl rfl hl.1 rfl (lv_room (Nat.le_of_ble_eq_true rfl)) d_X7_slip_16 ⟨Nat.zero_le _, Nat.zero_le _⟩) hS (fun q _ h => h) (fun q h => h) (fun r829 u t H locs ht hvm hv hP hz1 hk1 hS => ?_)
      obtain ⟨I827, L828⟩ := u
      dsimp only at hv hP
      rw [ht] at hP
      have hD : mm_DW G I827 L828 := mm_D_any hD
      refine lv_if_ne (tgt := 46) hx hb d_X7_slip_19 (by decide) (fun hc => ?_) (fun hc => ?_)
      · have hv := hv.1 hc
        refine lv_ldc2 (v := 1000000000000) hx hb hown (hg _ k_284) d_X7_slip_46 ?_
        exact W.lret (v := 1000000000000) hx hb hr (fun t ht hW => ⟨⟨1000000000000, (I827, L828), rfl, hv, mm_mv ht hP⟩, hS.F ht⟩) hS.2.2 d_X7_slip_49
      · have hv := hv.2 hc
        refine lv_aload_n hx hb d_X7_slip_22 rfl (lv_at hl 0 rfl) ?_
        refine lv_iload_n hx hb d_X7_slip_23 rfl (lv_at hl 3 rfl) ?_
        refine lv_iconst (v := 0) hx hb d_X7_slip_24 (by decide) ?_
        refine lv_iconst (v := 2) hx hb d_X7_slip_25 (by decide) ?_
        refine va_calli (va_runV (As := [.int x3, .int 0, .int 2]) (rest := []) ⟨hx, hb, hml, hown, hg⟩ (m_X7_out l G x3 0 2 I827 L828 _  hv) (cwV 3 hg (mm_gV k_220 k_221 k_222 k_223 kc_X7_out) rfl rfl rfl (by decide +kernel) ⟨Nat.le_of_ble_eq_true rfl, Nat.le_of_ble_eq_true rfl⟩) ⟨mm_blind, mm_recv hK hP (t := 36) (by decide) rfl rfl, fun U hU hW => mm_call hP hK hD hC hU hS hW⟩ rfl rfl hl.1 rfl (lv_room (Nat.le_of_ble_eq_true rfl)) d_X7_slip_26 ⟨Nat.zero_le _, Nat.zero_le _⟩) hS (fun q _ h => h) (fun q h => h) (fun r832 u t H locs ht hvm hv hP hz1 hk1 hS => ?_)
        obtain ⟨I830, L831⟩ := u
        dsimp only at hv hP
        rw [ht] at hP
        have hD : mm_DW G I830 L831 := mm_D_any hD
        refine lv_if_ne (tgt := 46) hx hb d_X7_slip_29 (by decide) (fun hc => ?_) (fun hc => ?_)
        · have hv := hv.1 hc
          refine lv_ldc2 (v := 1000000000000) hx hb hown (hg _ k_284) d_X7_slip_46 ?_
          exact W.lret (v := 1000000000000) hx hb hr (fun t ht hW => ⟨⟨1000000000000, (I830, L831), rfl, hv, mm_mv ht hP⟩, hS.F ht⟩) hS.2.2 d_X7_slip_49
        · have hv := hv.2 hc
          refine lv_aload_n hx hb d_X7_slip_32 rfl (lv_at hl 0 rfl) ?_
          refine mm_gr (D := G.1) (C := RX7) (T := TX7) (N0 := 21) (r := 50) hx hb hg in_X7 hown hK hP (t := 36) (by decide) rfl rfl 15 (by decide) (hg _ k_291) (fun _ h9 => h9) rfl d_X7_slip_33 ?_
          refine lv_iload_n hx hb d_X7_slip_36 rfl (lv_at hl 1 rfl) ?_
          refine lv_bipush (v := 6) hx hb d_X7_slip_37 (by decide) ?_
          refine lv_imul hx hb d_X7_slip_39 ?_
          refine lv_iload_n hx hb d_X7_slip_40 rfl (lv_at hl 2 rfl) ?_
          refine lv_iadd hx hb d_X7_slip_41 ?_
          obtain ⟨h833, hv⟩ := hv
          refine mm_zald (D := G.1) hx hb hK hP (t := 50) (by decide) rfl rfl h833 d_X7_slip_42 ?_
          refine lv_if_ne (tgt := 50) hx hb d_X7_slip_43 (by decide) (fun hc => ?_) (fun hc => ?_)
          · have hv := hv.1 hc
            refine lv_aload_n hx hb d_X7_slip_50 rfl (lv_at hl 0 rfl) ?_
            refine mm_gr (D := G.1) (C := RX7) (T := TX7) (N0 := 21) (r := 52) hx hb hg in_X7 hown hK hP (t := 36) (by decide) rfl rfl 17 (by decide) (hg _ k_292) (fun _ h9 => h9) rfl d_X7_slip_51 ?_
            refine lv_iload_n hx hb d_X7_slip_54 rfl (lv_at hl 1 rfl) ?_
            refine lv_bipush (v := 6) hx hb d_X7_slip_55 (by decide) ?_
            refine lv_imul hx hb d_X7_slip_57 ?_
            refine lv_iload_n hx hb d_X7_slip_58 rfl (lv_at hl 2 rfl) ?_
            refine lv_iadd hx hb d_X7_slip_59 ?_
            refine lv_iconst (v := 3) hx hb d_X7_slip_60 (by decide) ?_
            refine lv_imul hx hb d_X7_slip_61 ?_
            refine lv_iload_n hx hb d_X7_slip_62 rfl (lv_at hl 3 rfl) ?_
            refine lv_iadd hx hb d_X7_slip_63 ?_
            obtain ⟨h834, hv⟩ := hv
            refine mm_lald (D := G.1) hx hb hK hP (t := 52) (by decide) rfl rfl h834 d_X7_slip_64 ?_
            exact W.lret (v := (L831 52 (((((x1 * 6) + x2) * 3) + x3)).toNatClampNeg)) hx hb hr (fun t ht hW => ⟨⟨(L831 52 (((((x1 * 6) + x2) * 3) + x3)).toNatClampNeg), (I830, L831), rfl, hv, mm_mv ht hP⟩, hS.F ht⟩) hS.2.2 d_X7_slip_65
          · have hv := hv.2 hc
            refine lv_ldc2 (v := 1000000000000) hx hb hown (hg _ k_284) d_X7_slip_46 ?_
            exact W.lret (v := 1000000000000) hx hb hr (fun t ht hW => ⟨⟨1000000000000, (I830, L831), rfl, hv, mm_mv ht hP⟩, hS.F ht⟩) hS.2.2 d_X7_slip_49
abbrev vc_X7_slip (x1 : Int32) (x2 : Int32) (x3 : Int32) (I : mm_I) (L : mm_L) (Q : Int64 → mm_I → mm_L → Prop) : Prop := vc_X7_slip_0 x1 x2 x3 I L Q
set_option maxHeartbeats 4000000 in
set_option maxRecDepth 100000 in
theorem m_X7_slip (l : Launch) (G : mm_G) (x1 : Int32) (x2 : Int32) (x3 : Int32) (I : mm_I) (L : mm_L) (Q : Int64 → mm_I → mm_L → Prop)  (hv : vc_X7_slip x1 x2 x3 I L Q) : Met l y_X7_slip w_X7_slip rm_X7_slip (mm_pre G [.ref (G.2.2.1 36), .int x1, .int x2, .int x3] I L) (mm_ql G Q) 0 0 G.2.2.2.1 := by
  refine Met.ofW (cc := c_X7_slip) (maxL := 4) (ret := (some .long)) (by decide) rfl ?_
  intro p e s m args below meth c s₁ B hml hw
  obtain ⟨rfl, hP, hK, hD, hC⟩ := hw
  have hts := atoms_spec (ws := w_X7_slip) B.pre
  have hown : s.vm.findClass RX7 = some m.cls := findClass_of_methodNamed B.named
  have hl := lv_entry ([.ref (G.2.2.1 36), .int x1, .int x2, .int x3]) (n := 4) (Nat.le_of_ble_eq_true rfl)
  rw [lg_entry_eq]
  generalize (lg_sl ([.ref (G.2.2.1 36), .int x1, .int x2, .int x3]) ++ List.replicate (4 - (lg_sl ([.ref (G.2.2.1 36), .int x1, .int x2, .int x3])).length) Slot.unset).toArray = ls at hl ⊢
  have hl : lv_has ls 4 [(0, .ref (G.2.2.1 36)), (1, .int x1), (2, .int x2), (3, .int x3)] := hl
  exact w_X7_slip_0 ⟨B.exec, B.bytes, B.returns, B.notSynchronized, hml, hown, fun w h => hts w (List.mem_cons_of_mem _ h), hK, hC⟩ x1 x2 x3 I L Q  hv hP hD va_S.rf hl
abbrev rm_X7_held : Room := { frames := 1, cells := 0, slots := 0, locals := 23 }
def vc_X7_held_0 (x1 : Int32) (x2 : Int32) (I : mm_I) (L : mm_L) (Q : Int32 → mm_I → mm_L → Prop) : Prop :=
  (x1 < 0 → Q (-1) I L) ∧ (¬ x1 < 0 → ((I 36 1) ≤ x1 → Q (-1) I L) ∧ (¬ (I 36 1) ≤ x1 → vc_X7_out x2 0 5 I L (fun r837 I835 L836 => (r837 = 0 → vp_in ((x1 * 6) + x2) 96 ∧ Q (I835 51 (((x1 * 6) + x2)).toNatClampNeg) I835 L836) ∧ (¬ r837 = 0 → Q (-1) I835 L836))))
set_option maxHeartbeats 4000000 in
set_option maxRecDepth 100000 in
theorem w_X7_held_0 {p : Program} {l : Launch} {e : Env} {s : State} {m : MethodId} {args : Array Value} {below : List Frame} {meth : Method} {c : Code} {G : mm_G} (hcx : mm_cx c_X7_held (some .int) 3 RX7 G p s m args meth c) (x1 : Int32) (x2 : Int32) (I : mm_I) (L : mm_L) (Q : Int32 → mm_I → mm_L → Prop)  (hv : vc_X7_held_0 x1 x2 I L Q) {H : Heap} {locs : List Loc} (hP : mm_PW G I L H) (hD : mm_DW G I L) (hS : va_S G.2.2.2.1 s.heap H locs) {ls : Array Slot} (hl : lv_has ls 3 [(0, .ref (G.2.2.1 36)), (1, .int x1), (2, .int x2)]) : W p l e (headSpec w_X7_held rm_X7_held).room s m args below meth c H locs 0 0 (MQ below (mm_qi G Q) args s 0 0 G.2.2.2.1) (F0 m 0 ls []) := by
  obtain ⟨hx, hb, hr, hlocks, hml, hown, hg, hK, hC⟩ := id hcx
  unfold vc_X7_held_0 at hv
  refine lv_iload_n hx hb d_X7_held_0 rfl (lv_at hl 1 rfl) ?_
  refine lv_if_lt (tgt := 22) hx hb d_X7_held_1 (by decide) (fun hc => ?_) (fun hc => ?_)
  · have hv := hv.1 hc
    refine lv_iconst (v := (-1)) hx hb d_X7_held_22 (by decide) ?_
    refine lv_goto (tgt := 37) hx hb d_X7_held_23 (by decide) ?_
    exact W.iret (v := (-1)) hx hb hr (fun t ht hW => ⟨⟨(-1), (I, L), rfl, hv, mm_mv ht hP⟩, hS.F ht⟩) hS.2.2 d_X7_held_37
  · have hv := hv.2 hc
    refine lv_iload_n hx hb d_X7_held_4 rfl (lv_at hl 1 rfl) ?_
    refine lv_aload_n hx hb d_X7_held_5 rfl (lv_at hl 0 rfl) ?_
    refine mm_gi (D := G.1) (C := RX7) (T := TX7) (N0 := 21) hx hb hg in_X7 hown hK hP (t := 36) (by decide) rfl rfl 1 (by decide) (hg _ k_298) (fun _ h9 => h9) rfl d_X7_held_6 ?_
    refine lv_icmp_ge (tgt := 22) hx hb d_X7_held_9 (by decide) (fun hc => ?_) (fun hc => ?_)
    · have hv := hv.1 hc
      refine lv_iconst (v := (-1)) hx hb d_X7_held_22 (by decide) ?_
      refine lv_goto (tgt := 37) hx hb d_X7_held_23 (by decide) ?_
      exact W.iret (v := (-1)) hx hb hr (fun t ht hW => ⟨⟨(-1), (I, L), rfl, hv, mm_mv ht hP⟩, hS.F ht⟩) hS.2.2 d_X7_held_37
    · have hv := hv.2 hc
      refine lv_aload_n hx hb d_X7_held_12 rfl (lv_at hl 0 rfl) ?_
      refine lv_iload_n hx hb d_X7_held_13 rfl (lv_at hl 2 rfl) ?_
      refine lv_iconst (v := 0) hx hb d_X7_held_14 (by decide) ?_
      refine lv_iconst (v := 5) hx hb d_X7_held_15 (by decide) ?_
      refine va_calli (va_runV (As := [.int x2, .int 0, .int 5]) (rest := []) ⟨hx, hb, hml, hown, hg⟩ (m_X7_out l G x2 0 5 I L _  hv) (cwV 3 hg (mm_gV k_220 k_221 k_222 k_223 kc_X7_out) rfl rfl rfl (by decide +kernel) ⟨Nat.le_of_ble_eq_true rfl, Nat.le_of_ble_eq_true rfl⟩) ⟨mm_blind, mm_recv hK hP (t := 36) (by decide) rfl rfl, fun U hU hW => mm_call hP hK hD hC hU hS hW⟩ rfl rfl hl.1 rfl (lv_room (Nat.le_of_ble_eq_true rfl)) d_X7_held_16 ⟨Nat.zero_le _, Nat.zero_le _⟩) hS (fun q _ h => h) (fun q h => h) (fun r837 u t H locs ht hvm hv hP hz1 hk1 hS => ?_)
      obtain ⟨I835, L836⟩ := u
      dsimp only at hv hP
      rw [ht] at hP
      have hD : mm_DW G I835 L836 := mm_D_any hD
      refine lv_if_eq (tgt := 26) hx hb d_X7_held_19 (by decide) (fun hc => ?_) (fun hc => ?_)
      · have hv := hv.1 hc
        refine lv_aload_n hx hb d_X7_held_26 rfl (lv_at hl 0 rfl) ?_
        refine mm_gr (D := G.1) (C := RX7) (T := TX7) (N0 := 21) (r := 51) hx hb hg in_X7 hown hK hP (t := 36) (by decide) rfl rfl 16 (by decide) (hg _ k_294) (fun _ h9 => h9) rfl d_X7_held_27 ?_
        refine lv_iload_n hx hb d_X7_held_30 rfl (lv_at hl 1 rfl) ?_
        refine lv_bipush (v := 6) hx hb d_X7_held_31 (by decide) ?_
        refine lv_imul hx hb d_X7_held_33 ?_
        refine lv_iload_n hx hb d_X7_held_34 rfl (lv_at hl 2 rfl) ?_
        refine lv_iadd hx hb d_X7_held_35 ?_
        obtain ⟨h838, hv⟩ := hv
        refine mm_iald (D := G.1) hx hb hK hP (t := 51) (by decide) rfl rfl h838 d_X7_held_36 ?_
        exact W.iret (v := (I835 51 (((x1 * 6) + x2)).toNatClampNeg)) hx hb hr (fun t ht hW => ⟨⟨(I835 51 (((x1 * 6) + x2)).toNatClampNeg), (I835, L836), rfl, hv, mm_mv ht hP⟩, hS.F ht⟩) hS.2.2 d_X7_held_37
      · have hv := hv.2 hc
        refine lv_iconst (v := (-1)) hx hb d_X7_held_22 (by decide) ?_
        refine lv_goto (tgt := 37) hx hb d_X7_held_23 (by decide) ?_
        exact W.iret (v := (-1)) hx hb hr (fun t ht hW => ⟨⟨(-1), (I835, L836), rfl, hv, mm_mv ht hP⟩, hS.F ht⟩) hS.2.2 d_X7_held_37
abbrev vc_X7_held (x1 : Int32) (x2 : Int32) (I : mm_I) (L : mm_L) (Q : Int32 → mm_I → mm_L → Prop) : Prop := vc_X7_held_0 x1 x2 I L Q
set_option maxHeartbeats 4000000 in
set_option maxRecDepth 100000 in
theorem m_X7_held (l : Launch) (G : mm_G) (x1 : Int32) (x2 : Int32) (I : mm_I) (L : mm_L) (Q : Int32 → mm_I → mm_L → Prop)  (hv : vc_X7_held x1 x2 I L Q) : Met l y_X7_held w_X7_held rm_X7_held (mm_pre G [.ref (G.2.2.1 36), .int x1, .int x2] I L) (mm_qi G Q) 0 0 G.2.2.2.1 := by
  refine Met.ofW (cc := c_X7_held) (maxL := 3) (ret := (some .int)) (by decide) rfl ?_
  intro p e s m args below meth c s₁ B hml hw
  obtain ⟨rfl, hP, hK, hD, hC⟩ := hw
  have hts := atoms_spec (ws := w_X7_held) B.pre
  have hown : s.vm.findClass RX7 = some m.cls := findClass_of_methodNamed B.named
  have hl := lv_entry ([.ref (G.2.2.1 36), .int x1, .int x2]) (n := 3) (Nat.le_of_ble_eq_true rfl)
  rw [lg_entry_eq]
  generalize (lg_sl ([.ref (G.2.2.1 36), .int x1, .int x2]) ++ List.replicate (3 - (lg_sl ([.ref (G.2.2.1 36), .int x1, .int x2])).length) Slot.unset).toArray = ls at hl ⊢
  have hl : lv_has ls 3 [(0, .ref (G.2.2.1 36)), (1, .int x1), (2, .int x2)] := hl
  exact w_X7_held_0 ⟨B.exec, B.bytes, B.returns, B.notSynchronized, hml, hown, fun w h => hts w (List.mem_cons_of_mem _ h), hK, hC⟩ x1 x2 I L Q  hv hP hD va_S.rf hl
abbrev rm_X7_account : Room := { frames := 1, cells := 0, slots := 0, locals := 23 }
def vc_X7_account_31 : Nat → Int32 → Int64 → Int32 → Int32 → mm_I → mm_L → (Int64 → mm_I → mm_L → Prop) → (Int32 → Int64 → Int32 → mm_I → mm_L → Prop) → Prop
  | 0, _, _, _, _, _, _, _, _ => False
  | n9 + 1, x1, x2, x4, x5, I, L, Q, K => (6 ≤ x5 → K x1 x2 x4 I L) ∧ (¬ 6 ≤ x5 → vp_in x4 16 ∧ (¬ (I 49 x4.toNatClampNeg) = 0 → K x1 x2 x4 I L) ∧ ((I 49 x4.toNatClampNeg) = 0 → vp_in ((x4 * 6) + x5) 96 ∧ ((I 50 (((x4 * 6) + x5)).toNatClampNeg) = 0 → vc_X7_account_31 n9 x1 x2 x4 (x5 + 1) I L Q K) ∧ (¬ (I 50 (((x4 * 6) + x5)).toNatClampNeg) = 0 → vp_in ((((x4 * 6) + x5) * 3) + x1) 288 ∧ vc_X7_account_31 n9 x1 (x2 + (L 52 (((((x4 * 6) + x5) * 3) + x1)).toNatClampNeg)) x4 (x5 + 1) I L Q K)))
def vc_X7_account_19 : Nat → Int32 → Int64 → Int32 → mm_I → mm_L → (Int64 → mm_I → mm_L → Prop) → Prop
  | 0, _, _, _, _, _, _ => False
  | n9 + 1, x1, x2, x4, I, L, Q => ((I 36 1) ≤ x4 → (¬ x1 = 0 → Q (-x2) I L) ∧ (x1 = 0 → Q x2 I L)) ∧ (¬ (I 36 1) ≤ x4 → ∃ n, vc_X7_account_31 n x1 x2 x4 0 I L Q (fun x1 x2 x4 I L => vc_X7_account_19 n9 x1 x2 (x4 + 1) I L Q))
def vc_X7_account_0 (x1 : Int32) (I : mm_I) (L : mm_L) (Q : Int64 → mm_I → mm_L → Prop) : Prop :=
  vc_X7_out x1 0 2 I L (fun r841 I839 L840 => (r841 = 0 → ∃ n, vc_X7_account_19 n x1 0 0 I839 L840 Q) ∧ (¬ r841 = 0 → Q 1000000000000 I839 L840))
set_option maxHeartbeats 4000000 in
set_option maxRecDepth 100000 in
theorem w_X7_account_31 {p : Program} {l : Launch} {e : Env} {s : State} {m : MethodId} {args : Array Value} {below : List Frame} {meth : Method} {c : Code} {G : mm_G} (hcx : mm_cx c_X7_account (some .long) 6 RX7 G p s m args meth c) (Q : Int64 → mm_I → mm_L → Prop) (K : Int32 → Int64 → Int32 → mm_I → mm_L → Prop) : ∀ (n9 : Nat) (x1 : Int32) (x2 : Int64) (x4 : Int32) (x5 : Int32) (I : mm_I) (L : mm_L)  (H : Heap) (locs : List Loc) (ls : Array Slot), vc_X7_account_31 n9 x1 x2 x4 x5 I L Q K → mm_PW G I L H → mm_DW G I L → va_S G.2.2.2.1 s.heap H locs → lv_has ls 6 [(0, .ref (G.2.2.1 36)), (1, .int x1), (2, .long x2), (4, .int x4), (5, .int x5)] → (∀ (x1 : Int32) (x2 : Int64) (x4 : Int32) (I : mm_I) (L : mm_L)  (H : Heap) (locs : List Loc) (ls : Array Slot), K x1 x2 x4 I L → mm_PW G I L H → mm_DW G I L → va_S G.2.2.2.1 s.heap H locs → lv_has ls 6 [(0, .ref (G.2.2.1 36)), (1, .int x1), (2, .long x2), (4, .int x4)] → W p l e (headSpec w_X7_account rm_X7_account).room s m args below meth c H locs 0 0 (MQ below (mm_ql G Q) args s 0 0 G.2.2.2.1) (F0 m 90 ls [])) → W p l e (headSpec w_X7_account rm_X7_account).room s m args below meth c H locs 0 0 (MQ below (mm_ql G Q) args s 0 0 G.2.2.2.1) (F0 m 31 ls []) := by
  obtain ⟨hx, hb, hr, hlocks, hml, hown, hg, hK, hC⟩ := id hcx
  intro n9
  induction n9 with
  | zero => intro x1 x2 x4 x5 I L H locs ls hv hP hD hS hl kk; exact hv.elim
  | succ n9 ih =>
    intro x1 x2 x4 x5 I L H locs ls hv hP hD hS hl kk
    rw [vc_X7_account_31] at hv
    refine lv_iload hx hb d_X7_account_31 (lv_at hl 4 rfl) ?_
    refine lv_bipush (v := 6) hx hb d_X7_account_33 (by decide) ?_
    refine lv_icmp_ge (tgt := 90) hx hb d_X7_account_35 (by decide) (fun hc => ?_) (fun hc => ?_)
    · have hv := hv.1 hc
      exact kk x1 x2 x4 I L  H locs ls hv hP hD hS (lv_sub hl [0, 1, 2, 3] rfl)
    · have hv := hv.2 hc
      refine lv_aload_n hx hb d_X7_account_38 rfl (lv_at hl 0 rfl) ?_
      refine mm_gr (D := G.1) (C := RX7) (T := TX7) (N0 := 21) (r := 49) hx hb hg in_X7 hown hK hP (t := 36) (by decide) rfl rfl 14 (by decide) (hg _ k_293) (fun _ h9 => h9) rfl d_X7_account_39 ?_
      refine lv_iload hx hb d_X7_account_42 (lv_at hl 3 rfl) ?_
      obtain ⟨h842, hv⟩ := hv
      refine mm_zald (D := G.1) hx hb hK hP (t := 49) (by decide) rfl rfl h842 d_X7_account_44 ?_
      refine lv_if_ne (tgt := 90) hx hb d_X7_account_45 (by decide) (fun hc => ?_) (fun hc => ?_)
      · have hv := hv.1 hc
        exact kk x1 x2 x4 I L  H locs ls hv hP hD hS (lv_sub hl [0, 1, 2, 3] rfl)
      · have hv := hv.2 hc
        refine lv_aload_n hx hb d_X7_account_48 rfl (lv_at hl 0 rfl) ?_
        refine mm_gr (D := G.1) (C := RX7) (T := TX7) (N0 := 21) (r := 50) hx hb hg in_X7 hown hK hP (t := 36) (by decide) rfl rfl 15 (by decide) (hg _ k_291) (fun _ h9 => h9) rfl d_X7_account_49 ?_
        refine lv_iload hx hb d_X7_account_52 (lv_at hl 3 rfl) ?_
        refine lv_bipush (v := 6) hx hb d_X7_account_54 (by decide) ?_
        refine lv_imul hx hb d_X7_account_56 ?_
        refine lv_iload hx hb d_X7_account_57 (lv_at hl 4 rfl) ?_
        refine lv_iadd hx hb d_X7_account_59 ?_
        obtain ⟨h843, hv⟩ := hv
        refine mm_zald (D := G.1) hx hb hK hP (t := 50) (by decide) rfl rfl h843 d_X7_account_60 ?_
        refine lv_if_eq (tgt := 84) hx hb d_X7_account_61 (by decide) (fun hc => ?_) (fun hc => ?_)
        · have hv := hv.1 hc
          refine lv_iinc (v := (x5 + 1)) (lv' := [(5, .int (x5 + 1)), (0, .ref (G.2.2.1 36)), (1, .int x1), (2, .long x2), (4, .int x4)]) hx hb d_X7_account_84 hl (k := 4) rfl (by rfl) (by decide) rfl (fun ls hl => ?_)
          refine lv_goto (tgt := 31) hx hb d_X7_account_87 (by decide) ?_
          exact ih x1 x2 x4 (x5 + 1) I L  H locs ls hv hP hD hS (lv_sub hl [1, 2, 3, 4, 0] rfl) kk
        · have hv := hv.2 hc
          refine lv_lload_n hx hb d_X7_account_64 rfl (lv_at hl 2 rfl) ?_
          refine lv_aload_n hx hb d_X7_account_65 rfl (lv_at hl 0 rfl) ?_
          refine mm_gr (D := G.1) (C := RX7) (T := TX7) (N0 := 21) (r := 52) hx hb hg in_X7 hown hK hP (t := 36) (by decide) rfl rfl 17 (by decide) (hg _ k_292) (fun _ h9 => h9) rfl d_X7_account_66 ?_
          refine lv_iload hx hb d_X7_account_69 (lv_at hl 3 rfl) ?_
          refine lv_bipush (v := 6) hx hb d_X7_account_71 (by decide) ?_
          refine lv_imul hx hb d_X7_account_73 ?_
          refine lv_iload hx hb d_X7_account_74 (lv_at hl 4 rfl) ?_
          refine lv_iadd hx hb d_X7_account_76 ?_
          refine lv_iconst (v := 3) hx hb d_X7_account_77 (by decide) ?_
          refine lv_imul hx hb d_X7_account_78 ?_
          refine lv_iload_n hx hb d_X7_account_79 rfl (lv_at hl 1 rfl) ?_
          refine lv_iadd hx hb d_X7_account_80 ?_
          obtain ⟨h844, hv⟩ := hv
          refine mm_lald (D := G.1) hx hb hK hP (t := 52) (by decide) rfl rfl h844 d_X7_account_81 ?_
          refine lv_ladd hx hb d_X7_account_82 ?_
          refine lv_lstore_n (lv' := [(2, .long (x2 + (L 52 (((((x4 * 6) + x5) * 3) + x1)).toNatClampNeg))), (0, .ref (G.2.2.1 36)), (1, .int x1), (4, .int x4), (5, .int x5)]) hx hb d_X7_account_83 rfl hl (by decide) rfl (fun ls hl => ?_)
          refine lv_iinc (v := (x5 + 1)) (lv' := [(5, .int (x5 + 1)), (2, .long (x2 + (L 52 (((((x4 * 6) + x5) * 3) + x1)).toNatClampNeg))), (0, .ref (G.2.2.1 36)), (1, .int x1), (4, .int x4)]) hx hb d_X7_account_84 hl (k := 4) rfl (by rfl) (by decide) rfl (fun ls hl => ?_)
          refine lv_goto (tgt := 31) hx hb d_X7_account_87 (by decide) ?_
          exact ih x1 (x2 + (L 52 (((((x4 * 6) + x5) * 3) + x1)).toNatClampNeg)) x4 (x5 + 1) I L  H locs ls hv hP hD hS (lv_sub hl [2, 3, 1, 4, 0] rfl) kk
set_option maxHeartbeats 4000000 in
set_option maxRecDepth 100000 in
theorem w_X7_account_19 {p : Program} {l : Launch} {e : Env} {s : State} {m : MethodId} {args : Array Value} {below : List Frame} {meth : Method} {c : Code} {G : mm_G} (hcx : mm_cx c_X7_account (some .long) 6 RX7 G p s m args meth c) (Q : Int64 → mm_I → mm_L → Prop) : ∀ (n9 : Nat) (x1 : Int32) (x2 : Int64) (x4 : Int32) (I : mm_I) (L : mm_L)  (H : Heap) (locs : List Loc) (ls : Array Slot), vc_X7_account_19 n9 x1 x2 x4 I L Q → mm_PW G I L H → mm_DW G I L → va_S G.2.2.2.1 s.heap H locs → lv_has ls 6 [(0, .ref (G.2.2.1 36)), (1, .int x1), (2, .long x2), (4, .int x4)] → W p l e (headSpec w_X7_account rm_X7_account).room s m args below meth c H locs 0 0 (MQ below (mm_ql G Q) args s 0 0 G.2.2.2.1) (F0 m 19 ls []) := by
  obtain ⟨hx, hb, hr, hlocks, hml, hown, hg, hK, hC⟩ := id hcx
  intro n9
  induction n9 with
  | zero => intro x1 x2 x4 I L H locs ls hv hP hD hS hl; exact hv.elim
  | succ n9 ih =>
    intro x1 x2 x4 I L H locs ls hv hP hD hS hl
    rw [vc_X7_account_19] at hv
    refine lv_iload hx hb d_X7_account_19 (lv_at hl 3 rfl) ?_
    refine lv_aload_n hx hb d_X7_account_21 rfl (lv_at hl 0 rfl) ?_
    refine mm_gi (D := G.1) (C := RX7) (T := TX7) (N0 := 21) hx hb hg in_X7 hown hK hP (t := 36) (by decide) rfl rfl 1 (by decide) (hg _ k_298) (fun _ h9 => h9) rfl d_X7_account_22 ?_
    refine lv_icmp_ge (tgt := 96) hx hb d_X7_account_25 (by decide) (fun hc => ?_) (fun hc => ?_)
    · have hv := hv.1 hc
      refine lv_iload_n hx hb d_X7_account_96 rfl (lv_at hl 1 rfl) ?_
      refine lv_if_ne (tgt := 104) hx hb d_X7_account_97 (by decide) (fun hc => ?_) (fun hc => ?_)
      · have hv := hv.1 hc
        refine lv_lload_n hx hb d_X7_account_104 rfl (lv_at hl 2 rfl) ?_
        refine lv_lneg hx hb d_X7_account_105 ?_
        exact W.lret (v := (-x2)) hx hb hr (fun t ht hW => ⟨⟨(-x2), (I, L), rfl, hv, mm_mv ht hP⟩, hS.F ht⟩) hS.2.2 d_X7_account_106
      · have hv := hv.2 hc
        refine lv_lload_n hx hb d_X7_account_100 rfl (lv_at hl 2 rfl) ?_
        refine lv_goto (tgt := 106) hx hb d_X7_account_101 (by decide) ?_
        exact W.lret (v := x2) hx hb hr (fun t ht hW => ⟨⟨x2, (I, L), rfl, hv, mm_mv ht hP⟩, hS.F ht⟩) hS.2.2 d_X7_account_106
    · have hv := hv.2 hc
      refine lv_iconst (v := 0) hx hb d_X7_account_28 (by decide) ?_
      refine lv_istore (lv' := [(5, .int 0), (0, .ref (G.2.2.1 36)), (1, .int x1), (2, .long x2), (4, .int x4)]) hx hb d_X7_account_29 hl (by decide) rfl (fun ls hl => ?_)
      obtain ⟨n, hv⟩ := hv
      refine w_X7_account_31 hcx Q _ n x1 x2 x4 0 I L  H locs ls hv hP hD hS (lv_sub hl [1, 2, 3, 4, 0] rfl) (fun x1 x2 x4 I L H locs ls hv hP hD hS hl => ?_)
      try dsimp only at hv
      refine lv_iinc (v := (x4 + 1)) (lv' := [(4, .int (x4 + 1)), (0, .ref (G.2.2.1 36)), (1, .int x1), (2, .long x2)]) hx hb d_X7_account_90 hl (k := 3) rfl (by rfl) (by decide) rfl (fun ls hl => ?_)
      refine lv_goto (tgt := 19) hx hb d_X7_account_93 (by decide) ?_
      exact ih x1 x2 (x4 + 1) I L  H locs ls hv hP hD hS (lv_sub hl [1, 2, 3, 0] rfl)
set_option maxHeartbeats 4000000 in
set_option maxRecDepth 100000 in
theorem w_X7_account_0 {p : Program} {l : Launch} {e : Env} {s : State} {m : MethodId} {args : Array Value} {below : List Frame} {meth : Method} {c : Code} {G : mm_G} (hcx : mm_cx c_X7_account (some .long) 6 RX7 G p s m args meth c) (x1 : Int32) (I : mm_I) (L : mm_L) (Q : Int64 → mm_I → mm_L → Prop)  (hv : vc_X7_account_0 x1 I L Q) {H : Heap} {locs : List Loc} (hP : mm_PW G I L H) (hD : mm_DW G I L) (hS : va_S G.2.2.2.1 s.heap H locs) {ls : Array Slot} (hl : lv_has ls 6 [(0, .ref (G.2.2.1 36)), (1, .int x1)]) : W p l e (headSpec w_X7_account rm_X7_account).room s m args below meth c H locs 0 0 (MQ below (mm_ql G Q) args s 0 0 G.2.2.2.1) (F0 m 0 ls []) := by
  obtain ⟨hx, hb, hr, hlocks, hml, hown, hg, hK, hC⟩ := id hcx
  unfold vc_X7_account_0 at hv
  refine lv_aload_n hx hb d_X7_account_0 rfl (lv_at hl 0 rfl) ?_
  refine lv_iload_n hx hb d_X7_account_1 rfl (lv_at hl 1 rfl) ?_
  refine lv_iconst (v := 0) hx hb d_X7_account_2 (by decide) ?_
  refine lv_iconst (v := 2) hx hb d_X7_account_3 (by decide) ?_
  refine va_calli (va_runV (As := [.int x1, .int 0, .int 2]) (rest := []) ⟨hx, hb, hml, hown, hg⟩ (m_X7_out l G x1 0 2 I L _  hv) (cwV 3 hg (mm_gV k_220 k_221 k_222 k_223 kc_X7_out) rfl rfl rfl (by decide +kernel) ⟨Nat.le_of_ble_eq_true rfl, Nat.le_of_ble_eq_true rfl⟩) ⟨mm_blind, mm_recv hK hP (t := 36) (by decide) rfl rfl, fun U hU hW => mm_call hP hK hD hC hU hS hW⟩ rfl rfl hl.1 rfl (lv_room (Nat.le_of_ble_eq_true rfl)) d_X7_account_4 ⟨Nat.zero_le _, Nat.zero_le _⟩) hS (fun q _ h => h) (fun q h => h) (fun r841 u t H locs ht hvm hv hP hz1 hk1 hS => ?_)
  obtain ⟨I839, L840⟩ := u
  dsimp only at hv hP
  rw [ht] at hP
  have hD : mm_DW G I839 L840 := mm_D_any hD
  refine lv_if_eq (tgt := 14) hx hb d_X7_account_7 (by decide) (fun hc => ?_) (fun hc => ?_)
  · have hv := hv.1 hc
    refine lv_lconst (v := 0) hx hb d_X7_account_14 (by decide) ?_
    refine lv_lstore_n (lv' := [(2, .long 0), (0, .ref (G.2.2.1 36)), (1, .int x1)]) hx hb d_X7_account_15 rfl hl (by decide) rfl (fun ls hl => ?_)
    refine lv_iconst (v := 0) hx hb d_X7_account_16 (by decide) ?_
    refine lv_istore (lv' := [(4, .int 0), (2, .long 0), (0, .ref (G.2.2.1 36)), (1, .int x1)]) hx hb d_X7_account_17 hl (by decide) rfl (fun ls hl => ?_)
    obtain ⟨n, hv⟩ := hv
    exact w_X7_account_19 hcx Q n x1 0 0 I839 L840  H locs ls hv hP hD hS (lv_sub hl [2, 3, 1, 0] rfl)
  · have hv := hv.2 hc
    refine lv_ldc2 (v := 1000000000000) hx hb hown (hg _ k_284) d_X7_account_10 ?_
    exact W.lret (v := 1000000000000) hx hb hr (fun t ht hW => ⟨⟨1000000000000, (I839, L840), rfl, hv, mm_mv ht hP⟩, hS.F ht⟩) hS.2.2 d_X7_account_13
abbrev vc_X7_account (x1 : Int32) (I : mm_I) (L : mm_L) (Q : Int64 → mm_I → mm_L → Prop) : Prop := vc_X7_account_0 x1 I L Q
set_option maxHeartbeats 4000000 in
set_option maxRecDepth 100000 in
theorem m_X7_account (l : Launch) (G : mm_G) (x1 : Int32) (I : mm_I) (L : mm_L) (Q : Int64 → mm_I → mm_L → Prop)  (hv : vc_X7_account x1 I L Q) : Met l y_X7_account w_X7_account rm_X7_account (mm_pre G [.ref (G.2.2.1 36), .int x1] I L) (mm_ql G Q) 0 0 G.2.2.2.1 := by
  refine Met.ofW (cc := c_X7_account) (maxL := 6) (ret := (some .long)) (by decide) rfl ?_
  intro p e s m args below meth c s₁ B hml hw
  obtain ⟨rfl, hP, hK, hD, hC⟩ := hw
  have hts := atoms_spec (ws := w_X7_account) B.pre
  have hown : s.vm.findClass RX7 = some m.cls := findClass_of_methodNamed B.named
  have hl := lv_entry ([.ref (G.2.2.1 36), .int x1]) (n := 6) (Nat.le_of_ble_eq_true rfl)
  rw [lg_entry_eq]
  generalize (lg_sl ([.ref (G.2.2.1 36), .int x1]) ++ List.replicate (6 - (lg_sl ([.ref (G.2.2.1 36), .int x1])).length) Slot.unset).toArray = ls at hl ⊢
  have hl : lv_has ls 6 [(0, .ref (G.2.2.1 36)), (1, .int x1)] := hl
  exact w_X7_account_0 ⟨B.exec, B.bytes, B.returns, B.notSynchronized, hml, hown, fun w h => hts w (List.mem_cons_of_mem _ h), hK, hC⟩ x1 I L Q  hv hP hD va_S.rf hl
