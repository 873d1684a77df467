abbrev rm_X2_workedOut : Room := { frames := 3, cells := 0, slots := 0, locals := 65 }
def vc_X2_workedOut_328 (x3 : Int32) (x4 : Int32) (x5 : Int32) (I : mm_I) (L : mm_L) (Q : Int64 → mm_I → mm_L → Prop) : Prop :=
  vp_in x4 70 ∧ vp_in x5 70 ∧ vc_X5_ofTwo x3 (L 12 x4.toNatClampNeg) (L 12 x5.toNatClampNeg) I L (fun r310 I308 L309 => Q r310 I308 L309)
def vc_X2_workedOut_0 (x1 : Int32) (p2 : Nat) (I : mm_I) (L : mm_L) (Q : Int64 → mm_I → mm_L → Prop) : Prop :=
  vp_in x1 70 ∧ vp_in x1 70 ∧ vp_in x1 70 ∧ vp_in x1 70 ∧ (((I 3 x1.toNatClampNeg).toInt < 0 ∨ 20 ≤ (I 3 x1.toNatClampNeg).toInt) → vc_X2_workedOut_328 (I 3 x1.toNatClampNeg) (I 4 x1.toNatClampNeg) (I 5 x1.toNatClampNeg) I L Q) ∧ ((I 3 x1.toNatClampNeg) = 0 → Q ((I 4 x1.toNatClampNeg)).toInt64 I L) ∧ ((I 3 x1.toNatClampNeg) = 1 → vp_in (I 4 x1.toNatClampNeg) 8 ∧ Q ((I (30 + p2) ((I 4 x1.toNatClampNeg)).toNatClampNeg)).toInt64 I L) ∧ ((I 3 x1.toNatClampNeg) = 2 → vc_X2_workedDefinition (I 4 x1.toNatClampNeg) I L (fun r258 I256 L257 => Q r258 I256 L257)) ∧ ((I 3 x1.toNatClampNeg) = 3 → vc_X1_paidSoFar p2 (I 4 x1.toNatClampNeg) I L (fun r261 I259 L260 => Q r261 I259 L260)) ∧ ((I 3 x1.toNatClampNeg) = 4 → vc_X2_workedOut_328 (I 3 x1.toNatClampNeg) (I 4 x1.toNatClampNeg) (I 5 x1.toNatClampNeg) I L Q) ∧ ((I 3 x1.toNatClampNeg) = 5 → vc_X2_workedOut_328 (I 3 x1.toNatClampNeg) (I 4 x1.toNatClampNeg) (I 5 x1.toNatClampNeg) I L Q) ∧ ((I 3 x1.toNatClampNeg) = 6 → vc_X2_workedOut_328 (I 3 x1.toNatClampNeg) (I 4 x1.toNatClampNeg) (I 5 x1.toNatClampNeg) I L Q) ∧ ((I 3 x1.toNatClampNeg) = 7 → vc_X2_workedOut_328 (I 3 x1.toNatClampNeg) (I 4 x1.toNatClampNeg) (I 5 x1.toNatClampNeg) I L Q) ∧ ((I 3 x1.toNatClampNeg) = 8 → vc_X2_workedOut_328 (I 3 x1.toNatClampNeg) (I 4 x1.toNatClampNeg) (I 5 x1.toNatClampNeg) I L Q) ∧ ((I 3 x1.toNatClampNeg) = 9 → vc_X2_workedOut_328 (I 3 x1.toNatClampNeg) (I 4 x1.toNatClampNeg) (I 5 x1.toNatClampNeg) I L Q) ∧ ((I 3 x1.toNatClampNeg) = 10 → vc_X2_workedOut_328 (I 3 x1.toNatClampNeg) (I 4 x1.toNatClampNeg) (I 5 x1.toNatClampNeg) I L Q) ∧ ((I 3 x1.toNatClampNeg) = 11 → vp_in (I 4 x1.toNatClampNeg) 70 ∧ vp_in (I 5 x1.toNatClampNeg) 70 ∧ vp_in (I 6 x1.toNatClampNeg) 70 ∧ vc_X5_share (L 12 ((I 4 x1.toNatClampNeg)).toNatClampNeg) (L 12 ((I 5 x1.toNatClampNeg)).toNatClampNeg) (L 12 ((I 6 x1.toNatClampNeg)).toNatClampNeg) I L (fun r267 I265 L266 => Q r267 I265 L266)) ∧ ((I 3 x1.toNatClampNeg) = 12 → vp_in (I 4 x1.toNatClampNeg) 70 ∧ vc_X5_not (L 12 ((I 4 x1.toNatClampNeg)).toNatClampNeg) I L (fun r271 I269 L270 => Q r271 I269 L270)) ∧ ((I 3 x1.toNatClampNeg) = 13 → vp_in (I 4 x1.toNatClampNeg) 70 ∧ vp_in (I 5 x1.toNatClampNeg) 70 ∧ vc_X5_both (L 12 ((I 4 x1.toNatClampNeg)).toNatClampNeg) (L 12 ((I 5 x1.toNatClampNeg)).toNatClampNeg) I L (fun r276 I274 L275 => Q r276 I274 L275)) ∧ ((I 3 x1.toNatClampNeg) = 14 → vp_in (I 4 x1.toNatClampNeg) 70 ∧ vp_in (I 5 x1.toNatClampNeg) 70 ∧ vc_X5_any (L 12 ((I 4 x1.toNatClampNeg)).toNatClampNeg) (L 12 ((I 5 x1.toNatClampNeg)).toNatClampNeg) I L (fun r281 I279 L280 => Q r281 I279 L280)) ∧ ((I 3 x1.toNatClampNeg) = 15 → vp_in (I 4 x1.toNatClampNeg) 70 ∧ vp_in (I 5 x1.toNatClampNeg) 70 ∧ vp_in (I 6 x1.toNatClampNeg) 70 ∧ vc_X5_choice (L 12 ((I 4 x1.toNatClampNeg)).toNatClampNeg) (L 12 ((I 5 x1.toNatClampNeg)).toNatClampNeg) (L 12 ((I 6 x1.toNatClampNeg)).toNatClampNeg) I L (fun r287 I285 L286 => Q r287 I285 L286)) ∧ ((I 3 x1.toNatClampNeg) = 16 → Q 1000000000001 I L) ∧ ((I 3 x1.toNatClampNeg) = 17 → vc_X2_workedOrEmpty (I 4 x1.toNatClampNeg) I L (fun r290 I288 L289 => vp_in (I 5 x1.toNatClampNeg) 70 ∧ vp_in (I 6 x1.toNatClampNeg) 70 ∧ vc_X5_byDefault r290 (L289 12 ((I 5 x1.toNatClampNeg)).toNatClampNeg) (L289 12 ((I 6 x1.toNatClampNeg)).toNatClampNeg) I288 L289 (fun r295 I293 L294 => Q r295 I293 L294))) ∧ ((I 3 x1.toNatClampNeg) = 18 → vp_in (I 4 x1.toNatClampNeg) 70 ∧ vp_in (I 5 x1.toNatClampNeg) 70 ∧ vc_X5_also (L 12 ((I 4 x1.toNatClampNeg)).toNatClampNeg) (L 12 ((I 5 x1.toNatClampNeg)).toNatClampNeg) I L (fun r300 I298 L299 => Q r300 I298 L299)) ∧ ((I 3 x1.toNatClampNeg) = 19 → vp_in (I 4 x1.toNatClampNeg) 2 ∧ vp_in (I 5 x1.toNatClampNeg) 70 ∧ vc_X4_scaled (((I 4 x1.toNatClampNeg)).toNatClampNeg) (L 12 ((I 5 x1.toNatClampNeg)).toNatClampNeg) I L (fun r305 I303 L304 => Q r305 I303 L304))
set_option maxHeartbeats 4000000 in
set_option maxRecDepth 100000 in
theorem w_X2_workedOut_328 {p : Program} {l : Launch} {e : Env} {s : State} {m : MethodId} {args : Array Value} {below : List Frame} {meth : Method} {c : Code} {G : mm_G} (hcx : mm_cx c_X2_workedOut (some .long) 7 RX2 G p s m args meth c) (x3 : Int32) (x4 : Int32) (x5 : Int32) (I : mm_I) (L : mm_L) (Q : Int64 → mm_I → mm_L → Prop)  (hv : vc_X2_workedOut_328 x3 x4 x5 I L Q) {H : Heap} {locs : List Loc} (hP : mm_PW G I L H) (hD : mm_DW G I L) (hS : va_S G.2.2.2.1 s.heap H locs) {ls : Array Slot} (hl : lv_has ls 7 [(0, .ref (G.2.2.1 1)), (3, .int x3), (4, .int x4), (5, .int x5)]) : W p l e (headSpec w_X2_workedOut rm_X2_workedOut).room s m args below meth c H locs 0 0 (MQ below (mm_ql G Q) args s 0 0 G.2.2.2.1) (F0 m 328 ls []) := by
  obtain ⟨hx, hb, hr, hlocks, hml, hown, hg, hK, hC⟩ := id hcx
  unfold vc_X2_workedOut_328 at hv
  refine lv_iload_n hx hb d_X2_workedOut_328 rfl (lv_at hl 1 rfl) ?_
  refine lv_aload_n hx hb d_X2_workedOut_329 rfl (lv_at hl 0 rfl) ?_
  refine mm_gr (D := G.1) (C := RX2) (T := TX2) (N0 := 4) (r := 12) hx hb hg in_X2 hown hK hP (t := 1) (by decide) rfl rfl 3 (by decide) (hg _ k_64) (fun _ h9 => h9) rfl d_X2_workedOut_330 ?_
  refine lv_iload hx hb d_X2_workedOut_333 (lv_at hl 2 rfl) ?_
  obtain ⟨h306, hv⟩ := hv
  refine mm_lald (D := G.1) hx hb hK hP (t := 12) (by decide) rfl rfl h306 d_X2_workedOut_335 ?_
  refine lv_aload_n hx hb d_X2_workedOut_336 rfl (lv_at hl 0 rfl) ?_
  refine mm_gr (D := G.1) (C := RX2) (T := TX2) (N0 := 4) (r := 12) hx hb hg in_X2 hown hK hP (t := 1) (by decide) rfl rfl 3 (by decide) (hg _ k_64) (fun _ h9 => h9) rfl d_X2_workedOut_337 ?_
  refine lv_iload hx hb d_X2_workedOut_340 (lv_at hl 3 rfl) ?_
  obtain ⟨h307, hv⟩ := hv
  refine mm_lald (D := G.1) hx hb hK hP (t := 12) (by decide) rfl rfl h307 d_X2_workedOut_342 ?_
  refine va_calll (va_runS (As := [.int x3, .long (L 12 x4.toNatClampNeg), .long (L 12 x5.toNatClampNeg)]) (rest := []) ⟨hx, hb, hml, hown, hg⟩ (m_X5_ofTwo l G x3 (L 12 x4.toNatClampNeg) (L 12 x5.toNatClampNeg) I L _  hv) (va_cwS 3 hg (mm_gS k_121 k_122 k_63 kc_X5_ofTwo) rfl rfl rfl (by decide +kernel) ⟨Nat.le_of_ble_eq_true rfl, Nat.le_of_ble_eq_true rfl⟩) ⟨mm_blind, fun U hU hW => mm_call hP hK hD hC hU hS hW⟩ rfl rfl hl.1 rfl (lv_room (Nat.le_of_ble_eq_true rfl)) d_X2_workedOut_343 ⟨Nat.zero_le _, Nat.zero_le _⟩) hS (fun q _ h => h) (fun q h => h) (fun r310 u t H locs ht hvm hv hP hz1 hk1 hS => ?_)
  obtain ⟨I308, L309⟩ := u
  dsimp only at hv hP
  rw [ht] at hP
  have hD : mm_DW G I308 L309 := mm_D_any hD
  exact W.lret (v := r310) hx hb hr (fun t ht hW => ⟨⟨r310, (I308, L309), rfl, hv, mm_mv ht hP⟩, hS.F ht⟩) hS.2.2 d_X2_workedOut_346
set_option maxHeartbeats 4000000 in
set_option maxRecDepth 100000 in
theorem w_X2_workedOut_0 {p : Program} {l : Launch} {e : Env} {s : State} {m : MethodId} {args : Array Value} {below : List Frame} {meth : Method} {c : Code} {G : mm_G} (hcx : mm_cx c_X2_workedOut (some .long) 7 RX2 G p s m args meth c) (x1 : Int32) (p2 : Nat) (I : mm_I) (L : mm_L) (Q : Int64 → mm_I → mm_L → Prop) (hp2 : p2 < 6) (hv : vc_X2_workedOut_0 x1 p2 I L Q) {H : Heap} {locs : List Loc} (hP : mm_PW G I L H) (hD : mm_DW G I L) (hS : va_S G.2.2.2.1 s.heap H locs) {ls : Array Slot} (hl : lv_has ls 7 [(0, .ref (G.2.2.1 1)), (1, .int x1), (2, .ref (G.2.2.1 (24 + p2)))]) : W p l e (headSpec w_X2_workedOut rm_X2_workedOut).room s m args below meth c H locs 0 0 (MQ below (mm_ql G Q) args s 0 0 G.2.2.2.1) (F0 m 0 ls []) := by
  obtain ⟨hx, hb, hr, hlocks, hml, hown, hg, hK, hC⟩ := id hcx
  unfold vc_X2_workedOut_0 at hv
  refine lv_aload_n hx hb d_X2_workedOut_0 rfl (lv_at hl 0 rfl) ?_
  refine mm_gr (D := G.1) (C := RX2) (T := TX2) (N0 := 4) (r := 2) hx hb hg in_X2 hown hK hP (t := 1) (by decide) rfl rfl 0 (by decide) (hg _ k_90) (fun _ h9 => h9) rfl d_X2_workedOut_1 ?_
  refine mm_gr (D := G.1) (C := RX0) (T := TX0) (N0 := 8) (r := 3) hx hb hg in_X0 hown hK hP (t := 2) (by decide) rfl rfl 0 (by decide) (hg _ k_91) (fun _ h9 => h9) rfl d_X2_workedOut_4 ?_
  refine lv_iload_n hx hb d_X2_workedOut_7 rfl (lv_at hl 1 rfl) ?_
  obtain ⟨h251, hv⟩ := hv
  refine mm_iald (D := G.1) hx hb hK hP (t := 3) (by decide) rfl rfl h251 d_X2_workedOut_8 ?_
  refine lv_istore_n (lv' := [(3, .int (I 3 x1.toNatClampNeg)), (0, .ref (G.2.2.1 1)), (1, .int x1), (2, .ref (G.2.2.1 (24 + p2)))]) hx hb d_X2_workedOut_9 rfl hl (by decide) rfl (fun ls hl => ?_)
  refine lv_aload_n hx hb d_X2_workedOut_10 rfl (lv_at hl 1 rfl) ?_
  refine mm_gr (D := G.1) (C := RX2) (T := TX2) (N0 := 4) (r := 2) hx hb hg in_X2 hown hK hP (t := 1) (by decide) rfl rfl 0 (by decide) (hg _ k_90) (fun _ h9 => h9) rfl d_X2_workedOut_11 ?_
  refine mm_gr (D := G.1) (C := RX0) (T := TX0) (N0 := 8) (r := 4) hx hb hg in_X0 hown hK hP (t := 2) (by decide) rfl rfl 1 (by decide) (hg _ k_92) (fun _ h9 => h9) rfl d_X2_workedOut_14 ?_
  refine lv_iload_n hx hb d_X2_workedOut_17 rfl (lv_at hl 2 rfl) ?_
  obtain ⟨h252, hv⟩ := hv
  refine mm_iald (D := G.1) hx hb hK hP (t := 4) (by decide) rfl rfl h252 d_X2_workedOut_18 ?_
  refine lv_istore (lv' := [(4, .int (I 4 x1.toNatClampNeg)), (3, .int (I 3 x1.toNatClampNeg)), (0, .ref (G.2.2.1 1)), (1, .int x1), (2, .ref (G.2.2.1 (24 + p2)))]) hx hb d_X2_workedOut_19 hl (by decide) rfl (fun ls hl => ?_)
  refine lv_aload_n hx hb d_X2_workedOut_21 rfl (lv_at hl 2 rfl) ?_
  refine mm_gr (D := G.1) (C := RX2) (T := TX2) (N0 := 4) (r := 2) hx hb hg in_X2 hown hK hP (t := 1) (by decide) rfl rfl 0 (by decide) (hg _ k_90) (fun _ h9 => h9) rfl d_X2_workedOut_22 ?_
  refine mm_gr (D := G.1) (C := RX0) (T := TX0) (N0 := 8) (r := 5) hx hb hg in_X0 hown hK hP (t := 2) (by decide) rfl rfl 2 (by decide) (hg _ k_93) (fun _ h9 => h9) rfl d_X2_workedOut_25 ?_
  refine lv_iload_n hx hb d_X2_workedOut_28 rfl (lv_at hl 3 rfl) ?_
  obtain ⟨h253, hv⟩ := hv
  refine mm_iald (D := G.1) hx hb hK hP (t := 5) (by decide) rfl rfl h253 d_X2_workedOut_29 ?_
  refine lv_istore (lv' := [(5, .int (I 5 x1.toNatClampNeg)), (4, .int (I 4 x1.toNatClampNeg)), (3, .int (I 3 x1.toNatClampNeg)), (0, .ref (G.2.2.1 1)), (1, .int x1), (2, .ref (G.2.2.1 (24 + p2)))]) hx hb d_X2_workedOut_30 hl (by decide) rfl (fun ls hl => ?_)
  refine lv_aload_n hx hb d_X2_workedOut_32 rfl (lv_at hl 3 rfl) ?_
  refine mm_gr (D := G.1) (C := RX2) (T := TX2) (N0 := 4) (r := 2) hx hb hg in_X2 hown hK hP (t := 1) (by decide) rfl rfl 0 (by decide) (hg _ k_90) (fun _ h9 => h9) rfl d_X2_workedOut_33 ?_
  refine mm_gr (D := G.1) (C := RX0) (T := TX0) (N0 := 8) (r := 6) hx hb hg in_X0 hown hK hP (t := 2) (by decide) rfl rfl 3 (by decide) (hg _ k_94) (fun _ h9 => h9) rfl d_X2_workedOut_36 ?_
  refine lv_iload_n hx hb d_X2_workedOut_39 rfl (lv_at hl 4 rfl) ?_
  obtain ⟨h254, hv⟩ := hv
  refine mm_iald (D := G.1) hx hb hK hP (t := 6) (by decide) rfl rfl h254 d_X2_workedOut_40 ?_
  refine lv_istore (lv' := [(6, .int (I 6 x1.toNatClampNeg)), (5, .int (I 5 x1.toNatClampNeg)), (4, .int (I 4 x1.toNatClampNeg)), (3, .int (I 3 x1.toNatClampNeg)), (0, .ref (G.2.2.1 1)), (1, .int x1), (2, .ref (G.2.2.1 (24 + p2)))]) hx hb d_X2_workedOut_41 hl (by decide) rfl (fun ls hl => ?_)
  refine lv_iload_n hx hb d_X2_workedOut_43 rfl (lv_at hl 3 rfl) ?_
  obtain h0 | ⟨k9, hk9, he⟩ := mm_sw (I 3 x1.toNatClampNeg) 0 20
  · have hv := hv.1 h0
    refine lv_tableOut (tgt := 328) hx hb d_X2_workedOut_44 (by omega) (by decide) ?_
    exact w_X2_workedOut_328 hcx (I 3 x1.toNatClampNeg) (I 4 x1.toNatClampNeg) (I 5 x1.toNatClampNeg) I L Q  hv hP hD hS (lv_sub hl [4, 3, 2, 1] rfl)
  obtain rfl | rfl | rfl | rfl | rfl | rfl | rfl | rfl | rfl | rfl | rfl | rfl | rfl | rfl | rfl | rfl | rfl | rfl | rfl | rfl : k9 = 0 ∨ k9 = 1 ∨ k9 = 2 ∨ k9 = 3 ∨ k9 = 4 ∨ k9 = 5 ∨ k9 = 6 ∨ k9 = 7 ∨ k9 = 8 ∨ k9 = 9 ∨ k9 = 10 ∨ k9 = 11 ∨ k9 = 12 ∨ k9 = 13 ∨ k9 = 14 ∨ k9 = 15 ∨ k9 = 16 ∨ k9 = 17 ∨ k9 = 18 ∨ k9 = 19 := by omega
  · have he : (I 3 x1.toNatClampNeg) = 0 := he
    have hv := hv.2.1 he
    refine lv_tableIn (tgt := 140) hx hb d_X2_workedOut_44 (by rw [he]; decide) (by rw [he]; decide) (by rw [he]; rfl) (by decide) ?_
    refine lv_iload hx hb d_X2_workedOut_140 (lv_at hl 2 rfl) ?_
    refine lv_i2l (v := ((I 4 x1.toNatClampNeg)).toInt64) hx hb d_X2_workedOut_142 rfl ?_
    exact W.lret (v := ((I 4 x1.toNatClampNeg)).toInt64) hx hb hr (fun t ht hW => ⟨⟨((I 4 x1.toNatClampNeg)).toInt64, (I, L), rfl, hv, mm_mv ht hP⟩, hS.F ht⟩) hS.2.2 d_X2_workedOut_143
  · have he : (I 3 x1.toNatClampNeg) = 1 := he
    have hv := hv.2.2.1 he
    refine lv_tableIn (tgt := 144) hx hb d_X2_workedOut_44 (by rw [he]; decide) (by rw [he]; decide) (by rw [he]; rfl) (by decide) ?_
    refine lv_aload_n hx hb d_X2_workedOut_144 rfl (lv_at hl 6 rfl) ?_
    refine mm_gr (D := G.1) (C := RX1) (T := TX1) (N0 := 4) (r := (30 + p2)) hx hb hg in_X1 hown hK hP (t := (24 + p2)) (ly_N_PS hp2) (ly_PS hp2) rfl 0 (by decide) (hg _ k_95) (fun _ h9 => h9) rfl d_X2_workedOut_145 ?_
    refine lv_iload hx hb d_X2_workedOut_148 (lv_at hl 2 rfl) ?_
    obtain ⟨h255, hv⟩ := hv
    refine mm_iald (D := G.1) hx hb hK hP (t := (30 + p2)) (ly_N_INP hp2) (ly_INP hp2) rfl h255 d_X2_workedOut_150 ?_
    refine lv_i2l (v := ((I (30 + p2) ((I 4 x1.toNatClampNeg)).toNatClampNeg)).toInt64) hx hb d_X2_workedOut_151 rfl ?_
    exact W.lret (v := ((I (30 + p2) ((I 4 x1.toNatClampNeg)).toNatClampNeg)).toInt64) hx hb hr (fun t ht hW => ⟨⟨((I (30 + p2) ((I 4 x1.toNatClampNeg)).toNatClampNeg)).toInt64, (I, L), rfl, hv, mm_mv ht hP⟩, hS.F ht⟩) hS.2.2 d_X2_workedOut_152
  · have he : (I 3 x1.toNatClampNeg) = 2 := he
    have hv := hv.2.2.2.1 he
    refine lv_tableIn (tgt := 153) hx hb d_X2_workedOut_44 (by rw [he]; decide) (by rw [he]; decide) (by rw [he]; rfl) (by decide) ?_
    refine lv_aload_n hx hb d_X2_workedOut_153 rfl (lv_at hl 4 rfl) ?_
    refine lv_iload hx hb d_X2_workedOut_154 (lv_at hl 2 rfl) ?_
    refine va_calll (va_runV (As := [.int (I 4 x1.toNatClampNeg)]) (rest := []) ⟨hx, hb, hml, hown, hg⟩ (m_X2_workedDefinition l G (I 4 x1.toNatClampNeg) I L _  hv) (cwV 1 hg (mm_gV k_96 k_97 k_98 k_70 kc_X2_workedDefinition) rfl rfl rfl (by decide +kernel) ⟨Nat.le_of_ble_eq_true rfl, Nat.le_of_ble_eq_true rfl⟩) ⟨mm_blind, mm_recv hK hP (t := 1) (by decide) rfl rfl, fun U hU hW => mm_call hP hK hD hC hU hS hW⟩ rfl rfl hl.1 rfl (lv_room (Nat.le_of_ble_eq_true rfl)) d_X2_workedOut_156 ⟨Nat.zero_le _, Nat.zero_le _⟩) hS (fun q _ h => h) (fun q h => h) (fun r258 u t H locs ht hvm hv hP hz1 hk1 hS => ?_)
    obtain ⟨I256, L257⟩ := u
    dsimp only at hv hP
    rw [ht] at hP
    have hD : mm_DW G I256 L257 := mm_D_any hD
    exact W.lret (v := r258) hx hb hr (fun t ht hW => ⟨⟨r258, (I256, L257), rfl, hv, mm_mv ht hP⟩, hS.F ht⟩) hS.2.2 d_X2_workedOut_159
  · have he : (I 3 x1.toNatClampNeg) = 3 := he
    have hv := hv.2.2.2.2.1 he
    refine lv_tableIn (tgt := 160) hx hb d_X2_workedOut_44 (by rw [he]; decide) (by rw [he]; decide) (by rw [he]; rfl) (by decide) ?_
    refine lv_aload_n hx hb d_X2_workedOut_160 rfl (lv_at hl 6 rfl) ?_
    refine lv_iload hx hb d_X2_workedOut_161 (lv_at hl 2 rfl) ?_
    refine va_calll (va_runV (As := [.int (I 4 x1.toNatClampNeg)]) (rest := []) ⟨hx, hb, hml, hown, hg⟩ (m_X1_paidSoFar l G p2 (I 4 x1.toNatClampNeg) I L _ hp2 hv) (cwV 1 hg (mm_gV k_99 k_100 k_101 k_102 kc_X1_paidSoFar) rfl rfl rfl (by decide +kernel) ⟨Nat.le_of_ble_eq_true rfl, Nat.le_of_ble_eq_true rfl⟩) ⟨mm_blind, mm_recv hK hP (t := (24 + p2)) (ly_N_PS hp2) (ly_PS hp2) rfl, fun U hU hW => mm_call hP hK hD hC hU hS hW⟩ rfl rfl hl.1 rfl (lv_room (Nat.le_of_ble_eq_true rfl)) d_X2_workedOut_163 ⟨Nat.zero_le _, Nat.zero_le _⟩) hS (fun q _ h => h) (fun q h => h) (fun r261 u t H locs ht hvm hv hP hz1 hk1 hS => ?_)
    obtain ⟨I259, L260⟩ := u
    dsimp only at hv hP
    rw [ht] at hP
    have hD : mm_DW G I259 L260 := mm_D_any hD
    exact W.lret (v := r261) hx hb hr (fun t ht hW => ⟨⟨r261, (I259, L260), rfl, hv, mm_mv ht hP⟩, hS.F ht⟩) hS.2.2 d_X2_workedOut_166
  · have he : (I 3 x1.toNatClampNeg) = 4 := he
    have hv := hv.2.2.2.2.2.1 he
    refine lv_tableIn (tgt := 328) hx hb d_X2_workedOut_44 (by rw [he]; decide) (by rw [he]; decide) (by rw [he]; rfl) (by decide) ?_
    exact w_X2_workedOut_328 hcx (I 3 x1.toNatClampNeg) (I 4 x1.toNatClampNeg) (I 5 x1.toNatClampNeg) I L Q  hv hP hD hS (lv_sub hl [4, 3, 2, 1] rfl)
  · have he : (I 3 x1.toNatClampNeg) = 5 := he
    have hv := hv.2.2.2.2.2.2.1 he
    refine lv_tableIn (tgt := 328) hx hb d_X2_workedOut_44 (by rw [he]; decide) (by rw [he]; decide) (by rw [he]; rfl) (by decide) ?_
    exact w_X2_workedOut_328 hcx (I 3 x1.toNatClampNeg) (I 4 x1.toNatClampNeg) (I 5 x1.toNatClampNeg) I L Q  hv hP hD hS (lv_sub hl [4, 3, 2, 1] rfl)
  · have he : (I 3 x1.toNatClampNeg) = 6 := he
    have hv := hv.2.2.2.2.2.2.2.1 he
    refine lv_tableIn (tgt := 328) hx hb d_X2_workedOut_44 (by rw [he]; decide) (by rw [he]; decide) (by rw [he]; rfl) (by decide) ?_
    exact w_X2_workedOut_328 hcx (I 3 x1.toNatClampNeg) (I 4 x1.toNatClampNeg) (I 5 x1.toNatClampNeg) I L Q  hv hP hD hS (lv_sub hl [4, 3, 2, 1] rfl)
  · have he : (I 3 x1.toNatClampNeg) = 7 := he
    have hv := hv.2.2.2.2.2.2.2.2.1 he
    refine lv_tableIn (tgt := 328) hx hb d_X2_workedOut_44 (by rw [he]; decide) (by rw [he]; decide) (by rw [he]; rfl) (by decide) ?_
    exact w_X2_workedOut_328 hcx (I 3 x1.toNatClampNeg) (I 4 x1.toNatClampNeg) (I 5 x1.toNatClampNeg) I L Q  hv hP hD hS (lv_sub hl [4, 3, 2, 1] rfl)
  · have he : (I 3 x1.toNatClampNeg) = 8 := he
    have hv := hv.2.2.2.2.2.2.2.2.2.1 he
    refine lv_tableIn (tgt := 328) hx hb d_X2_workedOut_44 (by rw [he]; decide) (by rw [he]; decide) (by rw [he]; rfl) (by decide) ?_
    exact w_X2_workedOut_328 hcx (I 3 x1.toNatClampNeg) (I 4 x1.toNatClampNeg) (I 5 x1.toNatClampNeg) I L Q  hv hP hD hS (lv_sub hl [4, 3, 2, 1] rfl)
  · have he : (I 3 x1.toNatClampNeg) = 9 := he
    have hv := hv.2.2.2.2.2.2.2.2.2.2.1 he
    refine lv_tableIn (tgt := 328) hx hb d_X2_workedOut_44 (by rw [he]; decide) (by rw [he]; decide) (by rw [he]; rfl) (by decide) ?_
    exact w_X2_workedOut_328 hcx (I 3 x1.toNatClampNeg) (I 4 x1.toNatClampNeg) (I 5 x1.toNatClampNeg) I L Q  hv hP hD hS (lv_sub hl [4, 3, 2, 1] rfl)
  · have he : (I 3 x1.toNatClampNeg) = 10 := he
    have hv := hv.2.2.2.2.2.2.2.2.2.2.2.1 he
    refine lv_tableIn (tgt := 328) hx hb d_X2_workedOut_44 (by rw [he]; decide) (by rw [he]; decide) (by rw [he]; rfl) (by decide) ?_
    exact w_X2_workedOut_328 hcx (I 3 x1.toNatClampNeg) (I 4 x1.toNatClampNeg) (I 5 x1.toNatClampNeg) I L Q  hv hP hD hS (lv_sub hl [4, 3, 2, 1] rfl)
  · have he : (I 3 x1.toNatClampNeg) = 11 := he
    have hv := hv.2.2.2.2.2.2.2.2.2.2.2.2.1 he
    refine lv_tableIn (tgt := 167) hx hb d_X2_workedOut_44 (by rw [he]; decide) (by rw [he]; decide) (by rw [he]; rfl) (by decide) ?_
    refine lv_aload_n hx hb d_X2_workedOut_167 rfl (lv_at hl 4 rfl) ?_
    refine mm_gr (D := G.1) (C := RX2) (T := TX2) (N0 := 4) (r := 12) hx hb hg in_X2 hown hK hP (t := 1) (by decide) rfl rfl 3 (by decide) (hg _ k_64) (fun _ h9 => h9) rfl d_X2_workedOut_168 ?_
    refine lv_iload hx hb d_X2_workedOut_171 (lv_at hl 2 rfl) ?_
    obtain ⟨h262, hv⟩ := hv
    refine mm_lald (D := G.1) hx hb hK hP (t := 12) (by decide) rfl rfl h262 d_X2_workedOut_173 ?_
    refine lv_aload_n hx hb d_X2_workedOut_174 rfl (lv_at hl 4 rfl) ?_
    refine mm_gr (D := G.1) (C := RX2) (T := TX2) (N0 := 4) (r := 12) hx hb hg in_X2 hown hK hP (t := 1) (by decide) rfl rfl 3 (by decide) (hg _ k_64) (fun _ h9 => h9) rfl d_X2_workedOut_175 ?_
    refine lv_iload hx hb d_X2_workedOut_178 (lv_at hl 1 rfl) ?_
    obtain ⟨h263, hv⟩ := hv
    refine mm_lald (D := G.1) hx hb hK hP (t := 12) (by decide) rfl rfl h263 d_X2_workedOut_180 ?_
    refine lv_aload_n hx hb d_X2_workedOut_181 rfl (lv_at hl 4 rfl) ?_
    refine mm_gr (D := G.1) (C := RX2) (T := TX2) (N0 := 4) (r := 12) hx hb hg in_X2 hown hK hP (t := 1) (by decide) rfl rfl 3 (by decide) (hg _ k_64) (fun _ h9 => h9) rfl d_X2_workedOut_182 ?_
    refine lv_iload hx hb d_X2_workedOut_185 (lv_at hl 0 rfl) ?_
    obtain ⟨h264, hv⟩ := hv
    refine mm_lald (D := G.1) hx hb hK hP (t := 12) (by decide) rfl rfl h264 d_X2_workedOut_187 ?_
    refine va_calll (va_runS (As := [.long (L 12 ((I 4 x1.toNatClampNeg)).toNatClampNeg), .long (L 12 ((I 5 x1.toNatClampNeg)).toNatClampNeg), .long (L 12 ((I 6 x1.toNatClampNeg)).toNatClampNeg)]) (rest := []) ⟨hx, hb, hml, hown, hg⟩ (m_X5_share l G (L 12 ((I 4 x1.toNatClampNeg)).toNatClampNeg) (L 12 ((I 5 x1.toNatClampNeg)).toNatClampNeg) (L 12 ((I 6 x1.toNatClampNeg)).toNatClampNeg) I L _  hv) (va_cwS 3 hg (mm_gS k_103 k_104 k_63 kc_X5_share) rfl rfl rfl (by decide +kernel) ⟨Nat.le_of_ble_eq_true rfl, Nat.le_of_ble_eq_true rfl⟩) ⟨mm_blind, fun U hU hW => mm_call hP hK hD hC hU hS hW⟩ rfl rfl hl.1 rfl (lv_room (Nat.le_of_ble_eq_true rfl)) d_X2_workedOut_188 ⟨Nat.zero_le _, Nat.zero_le _⟩) hS (fun q _ h => h) (fun q h => h) (fun r267 u t H locs ht hvm hv hP hz1 hk1 hS => ?_)
    obtain ⟨I265, L266⟩ := u
    dsimp only at hv hP
    rw [ht] at hP
    have hD : mm_DW G I265 L266 := mm_D_any hD
    exact W.lret (v := r267) hx hb hr (fun t ht hW => ⟨⟨r267, (I265, L266), rfl, hv, mm_mv ht hP⟩, hS.F ht⟩) hS.2.2 d_X2_workedOut_191
  · have he : (I 3 x1.toNatClampNeg) = 12 := he
    have hv := hv.2.2.2.2.2.2.2.2.2.2.2.2.2.1 he
    refine lv_tableIn (tgt := 192) hx hb d_X2_workedOut_44 (by rw [he]; decide) (by rw [he]; decide) (by rw [he]; rfl) (by decide) ?_
    refine lv_aload_n hx hb d_X2_workedOut_192 rfl (lv_at hl 4 rfl) ?_
    refine mm_gr (D := G.1) (C := RX2) (T := TX2) (N0 := 4) (r := 12) hx hb hg in_X2 hown hK hP (t := 1) (by decide) rfl rfl 3 (by decide) (hg _ k_64) (fun _ h9 => h9) rfl d_X2_workedOut_193 ?_
    refine lv_iload hx hb d_X2_workedOut_196 (lv_at hl 2 rfl) ?_
    obtain ⟨h268, hv⟩ := hv
    refine mm_lald (D := G.1) hx hb hK hP (t := 12) (by decide) rfl rfl h268 d_X2_workedOut_198 ?_
    refine va_calll (va_runS (As := [.long (L 12 ((I 4 x1.toNatClampNeg)).toNatClampNeg)]) (rest := []) ⟨hx, hb, hml, hown, hg⟩ (m_X5_not l G (L 12 ((I 4 x1.toNatClampNeg)).toNatClampNeg) I L _  hv) (va_cwS 1 hg (mm_gS k_105 k_106 k_63 kc_X5_not) rfl rfl rfl (by decide +kernel) ⟨Nat.le_of_ble_eq_true rfl, Nat.le_of_ble_eq_true rfl⟩) ⟨mm_blind, fun U hU hW => mm_call hP hK hD hC hU hS hW⟩ rfl rfl hl.1 rfl (lv_room (Nat.le_of_ble_eq_true rfl)) d_X2_workedOut_199 ⟨Nat.zero_le _, Nat.zero_le _⟩) hS (fun q _ h => h) (fun q h => h) (fun r271 u t H locs ht hvm hv hP hz1 hk1 hS => ?_)
    obtain ⟨I269, L270⟩ := u
    dsimp only at hv hP
    rw [ht] at hP
    have hD : mm_DW G I269 L270 := mm_D_any hD
    exact W.lret (v := r271) hx hb hr (fun t ht hW => ⟨⟨r271, (I269, L270), rfl, hv, mm_mv ht hP⟩, hS.F ht⟩) hS.2.2 d_X2_workedOut_202
  · have he : (I 3 x1.toNatClampNeg) = 13 := he
    have hv := hv.2.2.2.2.2.2.2.2.2.2.2.2.2.2.1 he
    refine lv_tableIn (tgt := 203) hx hb d_X2_workedOut_44 (by rw [he]; decide) (by rw [he]; decide) (by rw [he]; rfl) (by decide) ?_
    refine lv_aload_n hx hb d_X2_workedOut_203 rfl (lv_at hl 4 rfl) ?_
    refine mm_gr (D := G.1) (C := RX2) (T := TX2) (N0 := 4) (r := 12) hx hb hg in_X2 hown hK hP (t := 1) (by decide) rfl rfl 3 (by decide) (hg _ k_64) (fun _ h9 => h9) rfl d_X2_workedOut_204 ?_
    refine lv_iload hx hb d_X2_workedOut_207 (lv_at hl 2 rfl) ?_
    obtain ⟨h272, hv⟩ := hv
    refine mm_lald (D := G.1) hx hb hK hP (t := 12) (by decide) rfl rfl h272 d_X2_workedOut_209 ?_
    refine lv_aload_n hx hb d_X2_workedOut_210 rfl (lv_at hl 4 rfl) ?_
    refine mm_gr (D := G.1) (C := RX2) (T := TX2) (N0 := 4) (r := 12) hx hb hg in_X2 hown hK hP (t := 1) (by decide) rfl rfl 3 (by decide) (hg _ k_64) (fun _ h9 => h9) rfl d_X2_workedOut_211 ?_
    refine lv_iload hx hb d_X2_workedOut_214 (lv_at hl 1 rfl) ?_
    obtain ⟨h273, hv⟩ := hv
    refine mm_lald (D := G.1) hx hb hK hP (t := 12) (by decide) rfl rfl h273 d_X2_workedOut_216 ?_
    refine va_calll (va_runS (As := [.long (L 12 ((I 4 x1.toNatClampNeg)).toNatClampNeg), .long (L 12 ((I 5 x1.toNatClampNeg)).toNatClampNeg)]) (rest := []) ⟨hx, hb, hml, hown, hg⟩ (m_X5_both l G (L 12 ((I 4 x1.toNatClampNeg)).toNatClampNeg) (L 12 ((I 5 x1.toNatClampNeg)).toNatClampNeg) I L _  hv) (va_cwS 2 hg (mm_gS k_107 k_108 k_63 kc_X5_both) rfl rfl rfl (by decide +kernel) ⟨Nat.le_of_ble_eq_true rfl, Nat.le_of_ble_eq_true rfl⟩) ⟨mm_blind, fun U hU hW => mm_call hP hK hD hC hU hS hW⟩ rfl rfl hl.1 rfl (lv_room (Nat.le_of_ble_eq_true rfl)) d_X2_workedOut_217 ⟨Nat.zero_le _, Nat.zero_le _⟩) hS (fun q _ h => h) (fun q h => h) (fun r276 u t H locs ht hvm hv hP hz1 hk1 hS => ?_)
    obtain ⟨I274, L275⟩ := u
    dsimp only at hv hP
    rw [ht] at hP
    have hD : mm_DW G I274 L275 := mm_D_any hD
    exact W.lret (v := r276) hx hb hr (fun t ht hW => ⟨⟨r276, (I274, L275), rfl, hv, mm_mv ht hP⟩, hS.F ht⟩) hS.2.2 d_X2_workedOut_220
  · have he : (I 3 x1.toNatClampNeg) = 14 := he
    have hv := hv.2.2.2.2.2.2.2.2.2.2.2.2.2.2.2.1 he
    refine lv_tableIn (tgt := 221) hx hb d_X2_workedOut_44 (by rw [he]; decide) (by rw [he]; decide) (by rw [he]; rfl) (by decide) ?_
    refine lv_aload_n hx hb d_X2_workedOut_221 rfl (lv_at hl 4 rfl) ?_
    refine mm_gr (D := G.1) (C := RX2) (T := TX2) (N0 := 4) (r := 12) hx hb hg in_X2 hown hK hP (t := 1) (by decide) rfl rfl 3 (by decide) (hg _ k_64) (fun _ h9 => h9) rfl d_X2_workedOut_222 ?_
    refine lv_iload hx hb d_X2_workedOut_225 (lv_at hl 2 rfl) ?_
    obtain ⟨h277, hv⟩ := hv
    refine mm_lald (D := G.1) hx hb hK hP (t := 12) (by decide) rfl rfl h277 d_X2_workedOut_227 ?_
    refine lv_aload_n hx hb d_X2_workedOut_228 rfl (lv_at hl 4 rfl) ?_
    refine mm_gr (D := G.1) (C := RX2) (T := TX2) (N0 := 4) (r := 12) hx hb hg in_X2 hown hK hP (t := 1) (by decide) rfl rfl 3 (by decide) (hg _ k_64) (fun _ h9 => h9) rfl d_X2_workedOut_229 ?_
    refine lv_iload hx hb d_X2_workedOut_232 (lv_at hl 1 rfl) ?_
    obtain ⟨h278, hv⟩ := hv
    refine mm_lald (D := G.1) hx hb hK hP (t := 12) (by decide) rfl rfl h278 d_X2_workedOut_234 ?_
    refine va_calll (va_runS (As := [.long (L 12 ((I 4 x1.toNatClampNeg)).toNatClampNeg), .long (L 12 ((I 5 x1.toNatClampNeg)).toNatClampNeg)]) (rest := []) ⟨hx, hb, hml, hown, hg⟩ (m_X5_any l G (L 12 ((I 4 x1.toNatClampNeg)).toNatClampNeg) (L 12 ((I 5 x1.toNatClampNeg)).toNatClampNeg) I L _  hv) (va_cwS 2 hg (mm_gS k_109 k_110 k_63 kc_X5_any) rfl rfl rfl (by decide +kernel) ⟨Nat.le_of_ble_eq_true rfl, Nat.le_of_ble_eq_true rfl⟩) ⟨mm_blind, fun U hU hW => mm_call hP hK hD hC hU hS hW⟩ rfl rfl hl.1 rfl (lv_room (Nat.le_of_ble_eq_true rfl)) d_X2_workedOut_235 ⟨Nat.zero_le _, Nat.zero_le _⟩) hS (fun q _ h => h) (fun q h => h) (fun r281 u t H locs ht hvm hv hP hz1 hk1 hS => ?_)
    obtain ⟨I279, L280⟩ := u
    dsimp only at hv hP
    rw [ht] at hP
    have hD : mm_DW G I279 L280 := mm_D_any hD
    exact W.lret (v := r281) hx hb hr (fun t ht hW => ⟨⟨r281, (I279, L280), rfl, hv, mm_mv ht hP⟩, hS.F ht⟩) hS.2.2 d_X2_workedOut_238
  · have he : (I 3 x1.toNatClampNeg) = 15 := he
    have hv := hv.2.2.2.2.2.2.2.2.2.2.2.2.2.2.2.2.1 he
    refine lv_tableIn (tgt := 239) hx hb d_X2_workedOut_44 (by rw [he]; decide) (by rw [he]; decide) (by rw [he]; rfl) (by decide) ?_
    refine lv_aload_n hx hb d_X2_workedOut_239 rfl (lv_at hl 4 rfl) ?_
    refine mm_gr (D := G.1) (C := RX2) (T := TX2) (N0 := 4) (r := 12) hx hb hg in_X2 hown hK hP (t := 1) (by decide) rfl rfl 3 (by decide) (hg _ k_64) (fun _ h9 => h9) rfl d_X2_workedOut_240 ?_
    refine lv_iload hx hb d_X2_workedOut_243 (lv_at hl 2 rfl) ?_
    obtain ⟨h282, hv⟩ := hv
    refine mm_lald (D := G.1) hx hb hK hP (t := 12) (by decide) rfl rfl h282 d_X2_workedOut_245 ?_
    refine lv_aload_n hx hb d_X2_workedOut_246 rfl (lv_at hl 4 rfl) ?_
    refine mm_gr (D := G.1) (C := RX2) (T := TX2) (N0 := 4) (r := 12) hx hb hg in_X2 hown hK hP (t := 1) (by decide) rfl rfl 3 (by decide) (hg _ k_64) (fun _ h9 => h9) rfl d_X2_workedOut_247 ?_
    refine lv_iload hx hb d_X2_workedOut_250 (lv_at hl 1 rfl) ?_
    obtain ⟨h283, hv⟩ := hv
    refine mm_lald (D := G.1) hx hb hK hP (t := 12) (by decide) rfl rfl h283 d_X2_workedOut_252 ?_
    refine lv_aload_n hx hb d_X2_workedOut_253 rfl (lv_at hl 4 rfl) ?_
    refine mm_gr (D := G.1) (C := RX2) (T := TX2) (N0 := 4) (r := 12) hx hb hg in_X2 hown hK hP (t := 1) (by decide) rfl rfl 3 (by decide) (hg _ k_64) (fun _ h9 => h9) rfl d_X2_workedOut_254 ?_
    refine lv_iload hx hb d_X2_workedOut_257 (lv_at hl 0 rfl) ?_
    obtain ⟨h284, hv⟩ := hv
    refine mm_lald (D := G.1) hx hb hK hP (t := 12) (by decide) rfl rfl h284 d_X2_workedOut_259 ?_
    refine va_calll (va_runS (As := [.long (L 12 ((I 4 x1.toNatClampNeg)).toNatClampNeg), .long (L 12 ((I 5 x1.toNatClampNeg)).toNatClampNeg), .long (L 12 ((I 6 x1.toNatClampNeg)).toNatClampNeg)]) (rest := []) ⟨hx, hb, hml, hown, hg⟩ (m_X5_choice l G (L 12 ((I 4 x1.toNatClampNeg)).toNatClampNeg) (L 12 ((I 5 x1.toNatClampNeg)).toNatClampNeg) (L 12 ((I 6 x1.toNatClampNeg)).toNatClampNeg) I L _  hv) (va_cwS 3 hg (mm_gS k_111 k_112 k_63 kc_X5_choice) rfl rfl rfl (by decide +kernel) ⟨Nat.le_of_ble_eq_true rfl, Nat.le_of_ble_eq_true rfl⟩) ⟨mm_blind, fun U hU hW => mm_call hP hK hD hC hU hS hW⟩ rfl rfl hl.1 rfl (lv_room (Nat.le_of_ble_eq_true rfl)) d_X2_workedOut_260 ⟨Nat.zero_le _, Nat.zero_le _⟩) hS (fun q _ h => h) (fun q h => h) (fun r287 u t H locs ht hvm hv hP hz1 hk1 hS => ?_)
    obtain ⟨I285, L286⟩ := u
    dsimp only at hv hP
    rw [ht] at hP
    have hD : mm_DW G I285 L286 := mm_D_any hD
    exact W.lret (v := r287) hx hb hr (fun t ht hW => ⟨⟨r287, (I285, L286), rfl, hv, mm_mv ht hP⟩, hS.F ht⟩) hS.2.2 d_X2_workedOut_263
  · have he : (I 3 x1.toNatClampNeg) = 16 := he
    have hv := hv.2.2.2.2.2.2.2.2.2.2.2.2.2.2.2.2.2.1 he
    refine lv_tableIn (tgt := 264) hx hb d_X2_workedOut_44 (by rw [he]; decide) (by rw [he]; decide) (by rw [he]; rfl) (by decide) ?_
    refine lv_ldc2 (v := 1000000000001) hx hb hown (hg _ k_65) d_X2_workedOut_264 ?_
    exact W.lret (v := 1000000000001) hx hb hr (fun t ht hW => ⟨⟨1000000000001, (I, L), rfl, hv, mm_mv ht hP⟩, hS.F ht⟩) hS.2.2 d_X2_workedOut_267
  · have he : (I 3 x1.toNatClampNeg) = 17 := he
    have hv := hv.2.2.2.2.2.2.2.2.2.2.2.2.2.2.2.2.2.2.1 he
    refine lv_tableIn (tgt := 268) hx hb d_X2_workedOut_44 (by rw [he]; decide) (by rw [he]; decide) (by rw [he]; rfl) (by decide) ?_
    refine lv_aload_n hx hb d_X2_workedOut_268 rfl (lv_at hl 4 rfl) ?_
    refine lv_iload hx hb d_X2_workedOut_269 (lv_at hl 2 rfl) ?_
    refine va_calll (va_runV (As := [.int (I 4 x1.toNatClampNeg)]) (rest := []) ⟨hx, hb, hml, hown, hg⟩ (m_X2_workedOrEmpty l G (I 4 x1.toNatClampNeg) I L _  hv) (cwV 1 hg (mm_gV k_67 k_68 k_69 k_70 kc_X2_workedOrEmpty) rfl rfl rfl (by decide +kernel) ⟨Nat.le_of_ble_eq_true rfl, Nat.le_of_ble_eq_true rfl⟩) ⟨mm_blind, mm_recv hK hP (t := 1) (by decide) rfl rfl, fun U hU hW => mm_call hP hK hD hC hU hS hW⟩ rfl rfl hl.1 rfl (lv_room (Nat.le_of_ble_eq_true rfl)) d_X2_workedOut_271 ⟨Nat.zero_le _, Nat.zero_le _⟩) hS (fun q _ h => h) (fun q h => h) (fun r290 u t H locs ht hvm hv hP hz1 hk1 hS => ?_)
    obtain ⟨I288, L289⟩ := u
    dsimp only at hv hP
    rw [ht] at hP
    have hD : mm_DW G I288 L289 := mm_D_any hD
    refine lv_aload_n hx hb d_X2_workedOut_274 rfl (lv_at hl 4 rfl) ?_
    refine mm_gr (D := G.1) (C := RX2) (T := TX2) (N0 := 4) (r := 12) hx hb hg in_X2 hown hK hP (t := 1) (by decide) rfl rfl 3 (by decide) (hg _ k_64) (fun _ h9 => h9) rfl d_X2_workedOut_275 ?_
    refine lv_iload hx hb d_X2_workedOut_278 (lv_at hl 1 rfl) ?_
    obtain ⟨h291, hv⟩ := hv
    refine mm_lald (D := G.1) hx hb hK hP (t := 12) (by decide) rfl rfl h291 d_X2_workedOut_280 ?_
    refine lv_aload_n hx hb d_X2_workedOut_281 rfl (lv_at hl 4 rfl) ?_
    refine mm_gr (D := G.1) (C := RX2) (T := TX2) (N0 := 4) (r := 12) hx hb hg in_X2 hown hK hP (t := 1) (by decide) rfl rfl 3 (by decide) (hg _ k_64) (fun _ h9 => h9) rfl d_X2_workedOut_282 ?_
    refine lv_iload hx hb d_X2_workedOut_285 (lv_at hl 0 rfl) ?_
    obtain ⟨h292, hv⟩ := hv
    refine mm_lald (D := G.1) hx hb hK hP (t := 12) (by decide) rfl rfl h292 d_X2_workedOut_287 ?_
    refine va_calll (va_runS (As := [.long r290, .long (L289 12 ((I 5 x1.toNatClampNeg)).toNatClampNeg), .long (L289 12 ((I 6 x1.toNatClampNeg)).toNatClampNeg)]) (rest := []) ⟨hx, hb, hml, hown, hg⟩ (m_X5_byDefault l G r290 (L289 12 ((I 5 x1.toNatClampNeg)).toNatClampNeg) (L289 12 ((I 6 x1.toNatClampNeg)).toNatClampNeg) I288 L289 _  hv) (va_cwS 3 hg (mm_gS k_113 k_114 k_63 kc_X5_byDefault) rfl rfl rfl (by decide +kernel) ⟨Nat.le_of_ble_eq_true rfl, Nat.le_of_ble_eq_true rfl⟩) ⟨mm_blind, fun U hU hW => mm_call hP hK hD hC hU hS hW⟩ rfl rfl hl.1 rfl (lv_room (Nat.le_of_ble_eq_true rfl)) d_X2_workedOut_288 ⟨Nat.zero_le _, Nat.zero_le _⟩) hS (fun q _ h => h) (fun q h => h) (fun r295 u t H locs ht hvm hv hP hz1 hk1 hS => ?_)
    obtain ⟨I293, L294⟩ := u
    dsimp only at hv hP
    rw [ht] at hP
    have hD : mm_DW G I293 L294 := mm_D_any hD
    exact W.lret (v := r295) hx hb hr (fun t ht hW => ⟨⟨r295, (I293, L294), rfl, hv, mm_mv ht hP⟩, hS.F ht⟩) hS.2.2 d_X2_workedOut_291
  · have he : (I 3 x1.toNatClampNeg) = 18 := he
    have hv := hv.2.2.2.2.2.2.2.2.2.2.2.2.2.2.2.2.2.2.2.1 he
    refine lv_tableIn (tgt := 292) hx hb d_X2_workedOut_44 (by rw [he]; decide) (by rw [he]; decide) (by rw [he]; rfl) (by decide) ?_
    refine lv_aload_n hx hb d_X2_workedOut_292 rfl (lv_at hl 4 rfl) ?_
    refine mm_gr (D := G.1) (C := RX2) (T := TX2) (N0 := 4) (r := 12) hx hb hg in_X2 hown hK hP (t := 1) (by decide) rfl rfl 3 (by decide) (hg _ k_64) (fun _ h9 => h9) rfl d_X2_workedOut_293 ?_
    refine lv_iload hx hb d_X2_workedOut_296 (lv_at hl 2 rfl) ?_
    obtain ⟨h296, hv⟩ := hv
    refine mm_lald (D := G.1) hx hb hK hP (t := 12) (by decide) rfl rfl h296 d_X2_workedOut_298 ?_
    refine lv_aload_n hx hb d_X2_workedOut_299 rfl (lv_at hl 4 rfl) ?_
    refine mm_gr (D := G.1) (C := RX2) (T := TX2) (N0 := 4) (r := 12) hx hb hg in_X2 hown hK hP (t := 1) (by decide) rfl rfl 3 (by decide) (hg _ k_64) (fun _ h9 => h9) rfl d_X2_workedOut_300 ?_
    refine lv_iload hx hb d_X2_workedOut_303 (lv_at hl 1 rfl) ?_
    obtain ⟨h297, hv⟩ := hv
    refine mm_lald (D := G.1) hx hb hK hP (t := 12) (by decide) rfl rfl h297 d_X2_workedOut_305 ?_
    refine va_calll (va_runS (As := [.long (L 12 ((I 4 x1.toNatClampNeg)).toNatClampNeg), .long (L 12 ((I 5 x1.toNatClampNeg)).toNatClampNeg)]) (rest := []) ⟨hx, hb, hml, hown, hg⟩ (m_X5_also l G (L 12 ((I 4 x1.toNatClampNeg)).toNatClampNeg) (L 12 ((I 5 x1.toNatClampNeg)).toNatClampNeg) I L _  hv) (va_cwS 2 hg (mm_gS k_115 k_116 k_63 kc_X5_also) rfl rfl rfl (by decide +kernel) ⟨Nat.le_of_ble_eq_true rfl, Nat.le_of_ble_eq_true rfl⟩) ⟨mm_blind, fun U hU hW => mm_call hP hK hD hC hU hS hW⟩ rfl rfl hl.1 rfl (lv_room (Nat.le_of_ble_eq_true rfl)) d_X2_workedOut_306 ⟨Nat.zero_le _, Nat.zero_le _⟩) hS (fun q _ h => h) (fun q h => h) (fun r300 u t H locs ht hvm hv hP hz1 hk1 hS => ?_)
    obtain ⟨I298, L299⟩ := u
    dsimp only at hv hP
    rw [ht] at hP
    have hD : mm_DW G I298 L299 := mm_D_any hD
    exact W.lret (v := r300) hx hb hr (fun t ht hW => ⟨⟨r300, (I298, L299), rfl, hv, mm_mv ht hP⟩, hS.F ht⟩) hS.2.2 d_X2_workedOut_309
  · have he : (I 3 x1.toNatClampNeg) = 19 := he
    have hv := hv.2.2.2.2.2.2.2.2.2.2.2.2.2.2.2.2.2.2.2.2 he
    refine lv_tableIn (tgt := 310) hx hb d_X2_workedOut_44 (by rw [he]; decide) (by rw [he]; decide) (by rw [he]; rfl) (by decide) ?_
    refine lv_aload_n hx hb d_X2_workedOut_310 rfl (lv_at hl 4 rfl) ?_
    refine mm_gr (D := G.1) (C := RX2) (T := TX2) (N0 := 4) (r := 11) hx hb hg in_X2 hown hK hP (t := 1) (by decide) rfl rfl 2 (by decide) (hg _ k_117) (fun _ h9 => h9) rfl d_X2_workedOut_311 ?_
    refine lv_iload hx hb d_X2_workedOut_314 (lv_at hl 2 rfl) ?_
    obtain ⟨h301, hv⟩ := hv
    refine mm_aald (D := G.1) hx hb hK hP (t := 11) (by decide) rfl rfl h301 (r := (18 + ((I 4 x1.toNatClampNeg)).toNatClampNeg)) (rfl) d_X2_workedOut_316 ?_
    refine lv_aload_n hx hb d_X2_workedOut_317 rfl (lv_at hl 4 rfl) ?_
    refine mm_gr (D := G.1) (C := RX2) (T := TX2) (N0 := 4) (r := 12) hx hb hg in_X2 hown hK hP (t := 1) (by decide) rfl rfl 3 (by decide) (hg _ k_64) (fun _ h9 => h9) rfl d_X2_workedOut_318 ?_
    refine lv_iload hx hb d_X2_workedOut_321 (lv_at hl 1 rfl) ?_
    obtain ⟨h302, hv⟩ := hv
    refine mm_lald (D := G.1) hx hb hK hP (t := 12) (by decide) rfl rfl h302 d_X2_workedOut_323 ?_
    refine va_calll (va_runV (As := [.long (L 12 ((I 5 x1.toNatClampNeg)).toNatClampNeg)]) (rest := []) ⟨hx, hb, hml, hown, hg⟩ (m_X4_scaled l G (((I 4 x1.toNatClampNeg)).toNatClampNeg) (L 12 ((I 5 x1.toNatClampNeg)).toNatClampNeg) I L _ (mm_lt h301) hv) (cwV 1 hg (mm_gV k_118 k_119 k_120 k_50 kc_X4_scaled) rfl rfl rfl (by decide +kernel) ⟨Nat.le_of_ble_eq_true rfl, Nat.le_of_ble_eq_true rfl⟩) ⟨mm_blind, mm_recv hK hP (t := (18 + ((I 4 x1.toNatClampNeg)).toNatClampNeg)) (ly_N_TB (mm_lt h301)) (ly_TB (mm_lt h301)) rfl, fun U hU hW => mm_call hP hK hD hC hU hS hW⟩ rfl rfl hl.1 rfl (lv_room (Nat.le_of_ble_eq_true rfl)) d_X2_workedOut_324 ⟨Nat.zero_le _, Nat.zero_le _⟩) hS (fun q _ h => h) (fun q h => h) (fun r305 u t H locs ht hvm hv hP hz1 hk1 hS => ?_)
    obtain ⟨I303, L304⟩ := u
    dsimp only at hv hP
    rw [ht] at hP
    have hD : mm_DW G I303 L304 := mm_D_any hD
    exact W.lret (v := r305) hx hb hr (fun t ht hW => ⟨⟨r305, (I303, L304), rfl, hv, mm_mv ht hP⟩, hS.F ht⟩) hS.2.2 d_X2_workedOut_327
abbrev vc_X2_workedOut (x1 : Int32) (p2 : Nat) (I : mm_I) (L : mm_L) (Q : Int64 → mm_I → mm_L → Prop) : Prop := vc_X2_workedOut_0 x1 p2 I L Q
set_option maxHeartbeats 4000000 in
set_option maxRecDepth 100000 in
theorem m_X2_workedOut (l : Launch) (G : mm_G) (x1 : Int32) (p2 : Nat) (I : mm_I) (L : mm_L) (Q : Int64 → mm_I → mm_L → Prop) (hp2 : p2 < 6) (hv : vc_X2_workedOut x1 p2 I L Q) : Met l y_X2_workedOut w_X2_workedOut rm_X2_workedOut (mm_pre G [.ref (G.2.2.1 1), .int x1, .ref (G.2.2.1 (24 + p2))] I L) (mm_ql G Q) 0 0 G.2.2.2.1 := by
  refine Met.ofW (cc := c_X2_workedOut) (maxL := 7) (ret := (some .long)) (by decide) rfl ?_
  intro p e s m args below meth c s₁ B hml hw
  obtain ⟨rfl, hP, hK, hD, hC⟩ := hw
  have hts := atoms_spec (ws := w_X2_workedOut) B.pre
  have hown : s.vm.findClass RX2 = some m.cls := findClass_of_methodNamed B.named
  have hl := lv_entry ([.ref (G.2.2.1 1), .int x1, .ref (G.2.2.1 (24 + p2))]) (n := 7) (Nat.le_of_ble_eq_true rfl)
  rw [lg_entry_eq]
  generalize (lg_sl ([.ref (G.2.2.1 1), .int x1, .ref (G.2.2.1 (24 + p2))]) ++ List.replicate (7 - (lg_sl ([.ref (G.2.2.1 1), .int x1, .ref (G.2.2.1 (24 + p2))])).length) Slot.unset).toArray = ls at hl ⊢
  have hl : lv_has ls 7 [(0, .ref (G.2.2.1 1)), (1, .int x1), (2, .ref (G.2.2.1 (24 + p2)))] := hl
  exact w_X2_workedOut_0 ⟨B.exec, B.bytes, B.returns, B.notSynchronized, hml, hown, fun w h => hts w (List.mem_cons_of_mem _ h), hK, hC⟩ x1 p2 I L Q hp2 hv hP hD va_S.rf hl
abbrev rm_X2_workOutFor : Room := { frames := 4, cells := 0, slots := 0, locals := 91 }
def vc_X2_workOutFor_2 : Nat → Nat → Int32 → mm_I → mm_L → (mm_I → mm_L → Prop) → Prop
  | 0, _, _, _, _, _ => False
  | n9 + 1, p1, x2, I, L, Q => ((I 2 7) ≤ x2 → Q I L) ∧ (¬ (I 2 7) ≤ x2 → vp_in x2 70 ∧ vc_X2_workedOut (I 9 x2.toNatClampNeg) p1 I L (fun r314 I312 L313 => vp_in (I 9 x2.toNatClampNeg) 70 ∧ vc_X2_workOutFor_2 n9 p1 (x2 + 1) I312 (mm_uL L313 12 ((I 9 x2.toNatClampNeg)).toNatClampNeg r314) Q))
def vc_X2_workOutFor_0 (p1 : Nat) (I : mm_I) (L : mm_L) (Q : mm_I → mm_L → Prop) : Prop :=
  ∃ n, vc_X2_workOutFor_2 n p1 0 I L Q
set_option maxHeartbeats 4000000 in
set_option maxRecDepth 100000 in
theorem w_X2_workOutFor_2 {p : Program} {l : Launch} {e : Env} {s : State} {m : MethodId} {args : Array Value} {below : List Frame} {meth : Method} {c : Code} {G : mm_G} (hcx : mm_cx c_X2_workOutFor none 4 RX2 G p s m args meth c) (Q : mm_I → mm_L → Prop) : ∀ (n9 : Nat) (p1 : Nat) (x2 : Int32) (I : mm_I) (L : mm_L) (hp1 : p1 < 6) (H : Heap) (locs : List Loc) (ls : Array Slot), vc_X2_workOutFor_2 n9 p1 x2 I L Q → mm_PW G I L H → mm_DW G I L → va_S G.2.2.2.1 s.heap H locs → lv_has ls 4 [(0, .ref (G.2.2.1 1)), (1, .ref (G.2.2.1 (24 + p1))), (2, .int x2)] → W p l e (headSpec w_X2_workOutFor rm_X2_workOutFor).room s m args below meth c H locs 0 0 (MQ below (mm_qv G Q) args s 0 0 G.2.2.2.1) (F0 m 2 ls []) := by
  obtain ⟨hx, hb, hr, hlocks, hml, hown, hg, hK, hC⟩ := id hcx
  intro n9
  induction n9 with
  | zero => intro p1 x2 I L hp1 H locs ls hv hP hD hS hl; exact hv.elim
  | succ n9 ih =>
    intro p1 x2 I L hp1 H locs ls hv hP hD hS hl
    rw [vc_X2_workOutFor_2] at hv
    refine lv_iload_n hx hb d_X2_workOutFor_2 rfl (lv_at hl 2 rfl) ?_
    refine lv_aload_n hx hb d_X2_workOutFor_3 rfl (lv_at hl 0 rfl) ?_
    refine mm_gr (D := G.1) (C := RX2) (T := TX2) (N0 := 4) (r := 2) hx hb hg in_X2 hown hK hP (t := 1) (by decide) rfl rfl 0 (by decide) (hg _ k_90) (fun _ h9 => h9) rfl d_X2_workOutFor_4 ?_
    refine mm_gi (D := G.1) (C := RX0) (T := TX0) (N0 := 8) hx hb hg in_X0 hown hK hP (t := 2) (by decide) rfl rfl 7 (by decide) (hg _ k_123) (fun _ h9 => h9) rfl d_X2_workOutFor_7 ?_
    refine lv_icmp_ge (tgt := 41) hx hb d_X2_workOutFor_10 (by decide) (fun hc => ?_) (fun hc => ?_)
    · have hv := hv.1 hc
      exact W.vret hx hb hr (fun t ht hW => ⟨⟨(I, L), rfl, hv, mm_mv ht hP⟩, hS.F ht⟩) hS.2.2 d_X2_workOutFor_41
    · have hv := hv.2 hc
      refine lv_aload_n hx hb d_X2_workOutFor_13 rfl (lv_at hl 0 rfl) ?_
      refine mm_gr (D := G.1) (C := RX2) (T := TX2) (N0 := 4) (r := 2) hx hb hg in_X2 hown hK hP (t := 1) (by decide) rfl rfl 0 (by decide) (hg _ k_90) (fun _ h9 => h9) rfl d_X2_workOutFor_14 ?_
      refine mm_gr (D := G.1) (C := RX0) (T := TX0) (N0 := 8) (r := 9) hx hb hg in_X0 hown hK hP (t := 2) (by decide) rfl rfl 6 (by decide) (hg _ k_124) (fun _ h9 => h9) rfl d_X2_workOutFor_17 ?_
      refine lv_iload_n hx hb d_X2_workOutFor_20 rfl (lv_at hl 2 rfl) ?_
      obtain ⟨h311, hv⟩ := hv
      refine mm_iald (D := G.1) hx hb hK hP (t := 9) (by decide) rfl rfl h311 d_X2_workOutFor_21 ?_
      refine lv_istore_n (lv' := [(3, .int (I 9 x2.toNatClampNeg)), (0, .ref (G.2.2.1 1)), (1, .ref (G.2.2.1 (24 + p1))), (2, .int x2)]) hx hb d_X2_workOutFor_22 rfl hl (by decide) rfl (fun ls hl => ?_)
      refine lv_aload_n hx hb d_X2_workOutFor_23 rfl (lv_at hl 1 rfl) ?_
      refine mm_gr (D := G.1) (C := RX2) (T := TX2) (N0 := 4) (r := 12) hx hb hg in_X2 hown hK hP (t := 1) (by decide) rfl rfl 3 (by decide) (hg _ k_64) (fun _ h9 => h9) rfl d_X2_workOutFor_24 ?_
      refine lv_iload_n hx hb d_X2_workOutFor_27 rfl (lv_at hl 0 rfl) ?_
      refine lv_aload_n hx hb d_X2_workOutFor_28 rfl (lv_at hl 1 rfl) ?_
      refine lv_iload_n hx hb d_X2_workOutFor_29 rfl (lv_at hl 0 rfl) ?_
      refine lv_aload_n hx hb d_X2_workOutFor_30 rfl (lv_at hl 2 rfl) ?_
      refine va_calll (va_runV (As := [.int (I 9 x2.toNatClampNeg), .ref (G.2.2.1 (24 + p1))]) (rest := [.int (I 9 x2.toNatClampNeg), .ref (G.2.2.1 12)]) ⟨hx, hb, hml, hown, hg⟩ (m_X2_workedOut l G (I 9 x2.toNatClampNeg) p1 I L _ hp1 hv) (cwV 2 hg (mm_gV k_125 k_126 k_127 k_70 kc_X2_workedOut) rfl rfl rfl (by decide +kernel) ⟨Nat.le_of_ble_eq_true rfl, Nat.le_of_ble_eq_true rfl⟩) ⟨mm_blind, mm_recv hK hP (t := 1) (by decide) rfl rfl, fun U hU hW => mm_call hP hK hD hC hU hS hW⟩ rfl rfl hl.1 rfl (lv_room (Nat.le_of_ble_eq_true rfl)) d_X2_workOutFor_31 ⟨Nat.zero_le _, Nat.zero_le _⟩) hS (fun q _ h => h) (fun q h => h) (fun r314 u t H locs ht hvm hv hP hz1 hk1 hS => ?_)
      obtain ⟨I312, L313⟩ := u
      dsimp only at hv hP
      rw [ht] at hP
      have hD : mm_DW G I312 L313 := mm_D_any hD
      obtain ⟨h315, hv⟩ := hv
      refine mm_last (D := G.1) hx hb hK hP hD hS (t := 12) (by decide) rfl rfl h315 d_X2_workOutFor_34 (fun H locs hP hD hS => ?_)
      refine lv_iinc (v := (x2 + 1)) (lv' := [(2, .int (x2 + 1)), (3, .int (I 9 x2.toNatClampNeg)), (0, .ref (G.2.2.1 1)), (1, .ref (G.2.2.1 (24 + p1)))]) hx hb d_X2_workOutFor_35 hl (k := 3) rfl (by rfl) (by decide) rfl (fun ls hl => ?_)
      refine lv_goto (tgt := 2) hx hb d_X2_workOutFor_38 (by decide) ?_
      exact ih p1 (x2 + 1) I312 (mm_uL L313 12 ((I 9 x2.toNatClampNeg)).toNatClampNeg r314) hp1 H locs ls hv hP hD hS (lv_sub hl [2, 3, 0] rfl)
set_option maxHeartbeats 4000000 in
set_option maxRecDepth 100000 in
theorem w_X2_workOutFor_0 {p : Program} {l : Launch} {e : Env} {s : State} {m : MethodId} {args : Array Value} {below : List Frame} {meth : Method} {c : Code} {G : mm_G} (hcx : mm_cx c_X2_workOutFor none 4 RX2 G p s m args meth c) (p1 : Nat) (I : mm_I) (L : mm_L) (Q : mm_I → mm_L → Prop) (hp1 : p1 < 6) (hv : vc_X2_workOutFor_0 p1 I L Q) {H : Heap} {locs : List Loc} (hP : mm_PW G I L H) (hD : mm_DW G I L) (hS : va_S G.2.2.2.1 s.heap H locs) {ls : Array Slot} (hl : lv_has ls 4 [(0, .ref (G.2.2.1 1)), (1, .ref (G.2.2.1 (24 + p1)))]) : W p l e (headSpec w_X2_workOutFor rm_X2_workOutFor).room s m args below meth c H locs 0 0 (MQ below (mm_qv G Q) args s 0 0 G.2.2.2.1) (F0 m 0 ls []) := by
  obtain ⟨hx, hb, hr, hlocks, hml, hown, hg, hK, hC⟩ := id hcx
  unfold vc_X2_workOutFor_0 at hv
  refine lv_iconst (v := 0) hx hb d_X2_workOutFor_0 (by decide) ?_
  refine lv_istore_n (lv' := [(2, .int 0), (0, .ref (G.2.2.1 1)), (1, .ref (G.2.2.1 (24 + p1)))]) hx hb d_X2_workOutFor_1 rfl hl (by decide) rfl (fun ls hl => ?_)
  obtain ⟨n, hv⟩ := hv
  exact w_X2_workOutFor_2 hcx Q n p1 0 I L hp1 H locs ls hv hP hD hS (lv_sub hl [1, 2, 0] rfl)
abbrev vc_X2_workOutFor (p1 : Nat) (I : mm_I) (L : mm_L) (Q : mm_I → mm_L → Prop) : Prop := vc_X2_workOutFor_0 p1 I L Q
set_option maxHeartbeats 4000000 in
set_option maxRecDepth 100000 in
theorem m_X2_workOutFor (l : Launch) (G : mm_G) (p1 : Nat) (I : mm_I) (L : mm_L) (Q : mm_I → mm_L → Prop) (hp1 : p1 < 6) (hv : vc_X2_workOutFor p1 I L Q) : Met l y_X2_workOutFor w_X2_workOutFor rm_X2_workOutFor (mm_pre G [.ref (G.2.2.1 1), .ref (G.2.2.1 (24 + p1))] I L) (mm_qv G Q) 0 0 G.2.2.2.1 := by
  refine Met.ofW (cc := c_X2_workOutFor) (maxL := 4) (ret := none) (by decide) rfl ?_
  intro p e s m args below meth c s₁ B hml hw
  obtain ⟨rfl, hP, hK, hD, hC⟩ := hw
  have hts := atoms_spec (ws := w_X2_workOutFor) B.pre
  have hown : s.vm.findClass RX2 = some m.cls := findClass_of_methodNamed B.named
  have hl := lv_entry ([.ref (G.2.2.1 1), .ref (G.2.2.1 (24 + p1))]) (n := 4) (Nat.le_of_ble_eq_true rfl)
  rw [lg_entry_eq]
  generalize (lg_sl ([.ref (G.2.2.1 1), .ref (G.2.2.1 (24 + p1))]) ++ List.replicate (4 - (lg_sl ([.ref (G.2.2.1 1), .ref (G.2.2.1 (24 + p1))])).length) Slot.unset).toArray = ls at hl ⊢
  have hl : lv_has ls 4 [(0, .ref (G.2.2.1 1)), (1, .ref (G.2.2.1 (24 + p1)))] := hl
  exact w_X2_workOutFor_0 ⟨B.exec, B.bytes, B.returns, B.notSynchronized, hml, hown, fun w h => hts w (List.mem_cons_of_mem _ h), hK, hC⟩ p1 I L Q hp1 hv hP hD va_S.rf hl
abbrev rm_X6_value : Room := { frames := 5, cells := 0, slots := 0, locals := 114 }
def vc_X6_value_0 (x1 : Int32) (x2 : Int32) (I : mm_I) (L : mm_L) (Q : Int64 → mm_I → mm_L → Prop) : Prop :=
  vc_X6_within x1 6 I L (fun r318 I316 L317 => (r318 = 0 → Q 1000000000000 I316 L317) ∧ (¬ r318 = 0 → vc_X0_has x2 I316 L317 (fun r321 I319 L320 => (r321 = 0 → Q 1000000000000 I319 L320) ∧ (¬ r321 = 0 → vp_in x1 6 ∧ vc_X1_paidIsInt (x1.toNatClampNeg) I319 L320 (fun r325 I323 L324 => (¬ r325 = 0 → vp_in x1 6 ∧ vc_X2_workOutFor (x1.toNatClampNeg) I323 L324 (fun I327 L328 => vp_in x2 70 ∧ Q (L328 12 x2.toNatClampNeg) I327 L328)) ∧ (r325 = 0 → Q 1000000000000 I323 L324))))))
set_option maxHeartbeats 4000000 in
set_option maxRecDepth 100000 in
theorem w_X6_value_0 {p : Program} {l : Launch} {e : Env} {s : State} {m : MethodId} {args : Array Value} {below : List Frame} {meth : Method} {c : Code} {G : mm_G} (hcx : mm_cx c_X6_value (some .long) 3 RX6 G p s m args meth c) (x1 : Int32) (x2 : Int32) (I : mm_I) (L : mm_L) (Q : Int64 → mm_I → mm_L → Prop)  (hv : vc_X6_value_0 x1 x2 I L Q) {H : Heap} {locs : List Loc} (hP : mm_PW G I L H) (hD : mm_DW G I L) (hS : va_S G.2.2.2.1 s.heap H locs) {ls : Array Slot} (hl : lv_has ls 3 [(0, .ref (G.2.2.1 0)), (1, .int x1), (2, .int x2)]) : W p l e (headSpec w_X6_value rm_X6_value).room s m args below meth c H locs 0 0 (MQ below (mm_ql G Q) args s 0 0 G.2.2.2.1) (F0 m 0 ls []) := by
  obtain ⟨hx, hb, hr, hlocks, hml, hown, hg, hK, hC⟩ := id hcx
  unfold vc_X6_value_0 at hv
  refine lv_iload_n hx hb d_X6_value_0 rfl (lv_at hl 1 rfl) ?_
  refine lv_bipush (v := 6) hx hb d_X6_value_1 (by decide) ?_
  refine va_calli (va_runS (As := [.int x1, .int 6]) (rest := []) ⟨hx, hb, hml, hown, hg⟩ (m_X6_within l G x1 6 I L _  hv) (va_cwS 2 hg (mm_gS k_42 k_2 k_1 kc_X6_within) rfl rfl rfl (by decide +kernel) ⟨Nat.le_of_ble_eq_true rfl, Nat.le_of_ble_eq_true rfl⟩) ⟨mm_blind, fun U hU hW => mm_call hP hK hD hC hU hS hW⟩ rfl rfl hl.1 rfl (lv_room (Nat.le_of_ble_eq_true rfl)) d_X6_value_3 ⟨Nat.zero_le _, Nat.zero_le _⟩) hS (fun q _ h => h) (fun q h => h) (fun r318 u t H locs ht hvm hv hP hz1 hk1 hS => ?_)
  obtain ⟨I316, L317⟩ := u
  dsimp only at hv hP
  rw [ht] at hP
  have hD : mm_DW G I316 L317 := mm_D_any hD
  refine lv_if_eq (tgt := 35) hx hb d_X6_value_6 (by decide) (fun hc => ?_) (fun hc => ?_)
  · have hv := hv.1 hc
    refine lv_ldc2 (v := 1000000000000) hx hb hown (hg _ k_128) d_X6_value_35 ?_
    exact W.lret (v := 1000000000000) hx hb hr (fun t ht hW => ⟨⟨1000000000000, (I316, L317), rfl, hv, mm_mv ht hP⟩, hS.F ht⟩) hS.2.2 d_X6_value_38
  · have hv := hv.2 hc
    refine lv_aload_n hx hb d_X6_value_9 rfl (lv_at hl 0 rfl) ?_
    refine mm_gr (D := G.1) (C := RX6) (T := TX6) (N0 := 3) (r := 1) hx hb hg in_X6 hown hK hP (t := 0) (by decide) rfl rfl 0 (by decide) (hg _ k_34) (fun _ h9 => h9) rfl d_X6_value_10 ?_
    refine mm_gr (D := G.1) (C := RX2) (T := TX2) (N0 := 4) (r := 2) hx hb hg in_X2 hown hK hP (t := 1) (by decide) rfl rfl 0 (by decide) (hg _ k_35) (fun _ h9 => h9) rfl d_X6_value_13 ?_
    refine lv_iload_n hx hb d_X6_value_16 rfl (lv_at hl 2 rfl) ?_
    refine va_calli (va_runV (As := [.int x2]) (rest := []) ⟨hx, hb, hml, hown, hg⟩ (m_X0_has l G x2 I316 L317 _  hv) (cwV 1 hg (mm_gV k_41 k_4 k_5 k_6 kc_X0_has) rfl rfl rfl (by decide +kernel) ⟨Nat.le_of_ble_eq_true rfl, Nat.le_of_ble_eq_true rfl⟩) ⟨mm_blind, mm_recv hK hP (t := 2) (by decide) rfl rfl, fun U hU hW => mm_call hP hK hD hC hU hS hW⟩ rfl rfl hl.1 rfl (lv_room (Nat.le_of_ble_eq_true rfl)) d_X6_value_17 ⟨Nat.zero_le _, Nat.zero_le _⟩) hS (fun q _ h => h) (fun q h => h) (fun r321 u t H locs ht hvm hv hP hz1 hk1 hS => ?_)
    obtain ⟨I319, L320⟩ := u
    dsimp only at hv hP
    rw [ht] at hP
    have hD : mm_DW G I319 L320 := mm_D_any hD
    refine lv_if_eq (tgt := 35) hx hb d_X6_value_20 (by decide) (fun hc => ?_) (fun hc => ?_)
    · have hv := hv.1 hc
      refine lv_ldc2 (v := 1000000000000) hx hb hown (hg _ k_128) d_X6_value_35 ?_
      exact W.lret (v := 1000000000000) hx hb hr (fun t ht hW => ⟨⟨1000000000000, (I319, L320), rfl, hv, mm_mv ht hP⟩, hS.F ht⟩) hS.2.2 d_X6_value_38
    · have hv := hv.2 hc
      refine lv_aload_n hx hb d_X6_value_23 rfl (lv_at hl 0 rfl) ?_
      refine mm_gr (D := G.1) (C := RX6) (T := TX6) (N0 := 3) (r := 13) hx hb hg in_X6 hown hK hP (t := 0) (by decide) rfl rfl 1 (by decide) (hg _ k_54) (fun _ h9 => h9) rfl d_X6_value_24 ?_
      refine lv_iload_n hx hb d_X6_value_27 rfl (lv_at hl 1 rfl) ?_
      obtain ⟨h322, hv⟩ := hv
      refine mm_aald (D := G.1) hx hb hK hP (t := 13) (by decide) rfl rfl h322 (r := (24 + x1.toNatClampNeg)) (rfl) d_X6_value_28 ?_
      refine va_calli (va_runV (As := []) (rest := []) ⟨hx, hb, hml, hown, hg⟩ (m_X1_paidIsInt l G (x1.toNatClampNeg) I319 L320 _ (mm_lt h322) hv) (cwV 0 hg (mm_gV k_133 k_134 k_135 k_102 kc_X1_paidIsInt) rfl rfl rfl (by decide +kernel) ⟨Nat.le_of_ble_eq_true rfl, Nat.le_of_ble_eq_true rfl⟩) ⟨mm_blind, mm_recv hK hP (t := (24 + x1.toNatClampNeg)) (ly_N_PS (mm_lt h322)) (ly_PS (mm_lt h322)) rfl, fun U hU hW => mm_call hP hK hD hC hU hS hW⟩ rfl rfl hl.1 rfl (lv_room (Nat.le_of_ble_eq_true rfl)) d_X6_value_29 ⟨Nat.zero_le _, Nat.zero_le _⟩) hS (fun q _ h => h) (fun q h => h) (fun r325 u t H locs ht hvm hv hP hz1 hk1 hS => ?_)
      obtain ⟨I323, L324⟩ := u
      dsimp only at hv hP
      rw [ht] at hP
      have hD : mm_DW G I323 L324 := mm_D_any hD
      refine lv_if_ne (tgt := 39) hx hb d_X6_value_32 (by decide) (fun hc => ?_) (fun hc => ?_)
      · have hv := hv.1 hc
        refine lv_aload_n hx hb d_X6_value_39 rfl (lv_at hl 0 rfl) ?_
        refine mm_gr (D := G.1) (C := RX6) (T := TX6) (N0 := 3) (r := 1) hx hb hg in_X6 hown hK hP (t := 0) (by decide) rfl rfl 0 (by decide) (hg _ k_34) (fun _ h9 => h9) rfl d_X6_value_40 ?_
        refine lv_aload_n hx hb d_X6_value_43 rfl (lv_at hl 0 rfl) ?_
        refine mm_gr (D := G.1) (C := RX6) (T := TX6) (N0 := 3) (r := 13) hx hb hg in_X6 hown hK hP (t := 0) (by decide) rfl rfl 1 (by decide) (hg _ k_54) (fun _ h9 => h9) rfl d_X6_value_44 ?_
        refine lv_iload_n hx hb d_X6_value_47 rfl (lv_at hl 1 rfl) ?_
        obtain ⟨h326, hv⟩ := hv
        refine mm_aald (D := G.1) hx hb hK hP (t := 13) (by decide) rfl rfl h326 (r := (24 + x1.toNatClampNeg)) (rfl) d_X6_value_48 ?_
        refine va_callv (va_runV (As := [.ref (G.2.2.1 (24 + x1.toNatClampNeg))]) (rest := []) ⟨hx, hb, hml, hown, hg⟩ (m_X2_workOutFor l G (x1.toNatClampNeg) I323 L324 _ (mm_lt h326) hv) (cwV 1 hg (mm_gV k_130 k_131 k_132 k_70 kc_X2_workOutFor) rfl rfl rfl (by decide +kernel) ⟨Nat.le_of_ble_eq_true rfl, Nat.le_of_ble_eq_true rfl⟩) ⟨mm_blind, mm_recv hK hP (t := 1) (by decide) rfl rfl, fun U hU hW => mm_call hP hK hD hC hU hS hW⟩ rfl rfl hl.1 rfl (lv_room (Nat.le_of_ble_eq_true rfl)) d_X6_value_49 ⟨Nat.zero_le _, Nat.zero_le _⟩) hS (fun q _ h => h) (fun q h => h) (fun u t H locs ht hvm hv hP hz1 hk1 hS => ?_)
        obtain ⟨I327, L328⟩ := u
        dsimp only at hv hP
        rw [ht] at hP
        have hD : mm_DW G I327 L328 := mm_D_any hD
        refine lv_aload_n hx hb d_X6_value_52 rfl (lv_at hl 0 rfl) ?_
        refine mm_gr (D := G.1) (C := RX6) (T := TX6) (N0 := 3) (r := 1) hx hb hg in_X6 hown hK hP (t := 0) (by decide) rfl rfl 0 (by decide) (hg _ k_34) (fun _ h9 => h9) rfl d_X6_value_53 ?_
        refine mm_gr (D := G.1) (C := RX2) (T := TX2) (N0 := 4) (r := 12) hx hb hg in_X2 hown hK hP (t := 1) (by decide) rfl rfl 3 (by decide) (hg _ k_129) (fun _ h9 => h9) rfl d_X6_value_56 ?_
        refine lv_iload_n hx hb d_X6_value_59 rfl (lv_at hl 2 rfl) ?_
        obtain ⟨h330, hv⟩ := hv
        refine mm_lald (D := G.1) hx hb hK hP (t := 12) (by decide) rfl rfl h330 d_X6_value_60 ?_
        exact W.lret (v := (L328 12 x2.toNatClampNeg)) hx hb hr (fun t ht hW => ⟨⟨(L328 12 x2.toNatClampNeg), (I327, L328), rfl, hv, mm_mv ht hP⟩, hS.F ht⟩) hS.2.2 d_X6_value_61
      · have hv := hv.2 hc
        refine lv_ldc2 (v := 1000000000000) hx hb hown (hg _ k_128) d_X6_value_35 ?_
        exact W.lret (v := 1000000000000) hx hb hr (fun t ht hW => ⟨⟨1000000000000, (I323, L324), rfl, hv, mm_mv ht hP⟩, hS.F ht⟩) hS.2.2 d_X6_value_38
abbrev vc_X6_value (x1 : Int32) (x2 : Int32) (I : mm_I) (L : mm_L) (Q : Int64 → mm_I → mm_L → Prop) : Prop := vc_X6_value_0 x1 x2 I L Q
set_option maxHeartbeats 4000000 in
set_option maxRecDepth 100000 in
theorem m_X6_value (l : Launch) (G : mm_G) (x1 : Int32) (x2 : Int32) (I : mm_I) (L : mm_L) (Q : Int64 → mm_I → mm_L → Prop)  (hv : vc_X6_value x1 x2 I L Q) : Met l y_X6_value w_X6_value rm_X6_value (mm_pre G [.ref (G.2.2.1 0), .int x1, .int x2] I L) (mm_ql G Q) 0 0 G.2.2.2.1 := by
  refine Met.ofW (cc := c_X6_value) (maxL := 3) (ret := (some .long)) (by decide) rfl ?_
  intro p e s m args below meth c s₁ B hml hw
  obtain ⟨rfl, hP, hK, hD, hC⟩ := hw
  have hts := atoms_spec (ws := w_X6_value) B.pre
  have hown : s.vm.findClass RX6 = some m.cls := findClass_of_methodNamed B.named
  have hl := lv_entry ([.ref (G.2.2.1 0), .int x1, .int x2]) (n := 3) (Nat.le_of_ble_eq_true rfl)
  rw [lg_entry_eq]
  generalize (lg_sl ([.ref (G.2.2.1 0), .int x1, .int x2]) ++ List.replicate (3 - (lg_sl ([.ref (G.2.2.1 0), .int x1, .int x2])).length) Slot.unset).toArray = ls at hl ⊢
  have hl : lv_has ls 3 [(0, .ref (G.2.2.1 0)), (1, .int x1), (2, .int x2)] := hl
  exact w_X6_value_0 ⟨B.exec, B.bytes, B.returns, B.notSynchronized, hml, hown, fun w h => hts w (List.mem_cons_of_mem _ h), hK, hC⟩ x1 x2 I L Q  hv hP hD va_S.rf hl
abbrev rm_X3_placeOf : Room := { frames := 0, cells := 0, slots := 0, locals := 0 }
def vc_X3_placeOf_0 (x0 : Int32) (x1 : Int32) (I : mm_I) (L : mm_L) (Q : Int32 → mm_I → mm_L → Prop) : Prop :=
  Q (((x0 * 6) + x1) * 3) I L
set_option maxHeartbeats 4000000 in
set_option maxRecDepth 100000 in
theorem w_X3_placeOf_0 {p : Program} {l : Launch} {e : Env} {s : State} {m : MethodId} {args : Array Value} {below : List Frame} {meth : Method} {c : Code} {G : mm_G} (hcx : mm_cx c_X3_placeOf (some .int) 2 RX3 G p s m args meth c) (x0 : Int32) (x1 : Int32) (I : mm_I) (L : mm_L) (Q : Int32 → mm_I → mm_L → Prop)  (hv : vc_X3_placeOf_0 x0 x1 I L Q) {H : Heap} {locs : List Loc} (hP : mm_PW G I L H) (hD : mm_DW G I L) (hS : va_S G.2.2.2.1 s.heap H locs) {ls : Array Slot} (hl : lv_has ls 2 [(0, .int x0), (1, .int x1)]) : W p l e (headSpec w_X3_placeOf rm_X3_placeOf).room s m args below meth c H locs 0 0 (MQ below (mm_qi G Q) args s 0 0 G.2.2.2.1) (F0 m 0 ls []) := by
  obtain ⟨hx, hb, hr, hlocks, hml, hown, hg, hK, hC⟩ := id hcx
  unfold vc_X3_placeOf_0 at hv
  refine lv_iload_n hx hb d_X3_placeOf_0 rfl (lv_at hl 0 rfl) ?_
  refine lv_bipush (v := 6) hx hb d_X3_placeOf_1 (by decide) ?_
  refine lv_imul hx hb d_X3_placeOf_3 ?_
  refine lv_iload_n hx hb d_X3_placeOf_4 rfl (lv_at hl 1 rfl) ?_
  refine lv_iadd hx hb d_X3_placeOf_5 ?_
  refine lv_iconst (v := 3) hx hb d_X3_placeOf_6 (by decide) ?_
  refine lv_imul hx hb d_X3_placeOf_7 ?_
  exact W.iret (v := (((x0 * 6) + x1) * 3)) hx hb hr (fun t ht hW => ⟨⟨(((x0 * 6) + x1) * 3), (I, L), rfl, hv, mm_mv ht hP⟩, hS.F ht⟩) hS.2.2 d_X3_placeOf_8
abbrev vc_X3_placeOf (x0 : Int32) (x1 : Int32) (I : mm_I) (L : mm_L) (Q : Int32 → mm_I → mm_L → Prop) : Prop := vc_X3_placeOf_0 x0 x1 I L Q
set_option maxHeartbeats 4000000 in
set_option maxRecDepth 100000 in
theorem m_X3_placeOf (l : Launch) (G : mm_G) (x0 : Int32) (x1 : Int32) (I : mm_I) (L : mm_L) (Q : Int32 → mm_I → mm_L → Prop)  (hv : vc_X3_placeOf x0 x1 I L Q) : Met l y_X3_placeOf w_X3_placeOf rm_X3_placeOf (mm_pre G [.int x0, .int x1] I L) (mm_qi G Q) 0 0 G.2.2.2.1 := by
  refine Met.ofW (cc := c_X3_placeOf) (maxL := 2) (ret := (some .int)) (by decide) rfl ?_
  intro p e s m args below meth c s₁ B hml hw
  obtain ⟨rfl, hP, hK, hD, hC⟩ := hw
  have hts := atoms_spec (ws := w_X3_placeOf) B.pre
  have hown : s.vm.findClass RX3 = some m.cls := findClass_of_methodNamed B.named
  have hl := lv_entry ([.int x0, .int x1]) (n := 2) (Nat.le_of_ble_eq_true rfl)
  rw [lg_entry_eq]
  generalize (lg_sl ([.int x0, .int x1]) ++ List.replicate (2 - (lg_sl ([.int x0, .int x1])).length) Slot.unset).toArray = ls at hl ⊢
  have hl : lv_has ls 2 [(0, .int x0), (1, .int x1)] := hl
  exact w_X3_placeOf_0 ⟨B.exec, B.bytes, B.returns, B.notSynchronized, hml, hown, fun w h => hts w (List.mem_cons_of_mem _ h), hK, hC⟩ x0 x1 I L Q  hv hP hD va_S.rf hl
abbrev rm_X3_writeSlip : Room := { frames := 1, cells := 0, slots := 0, locals := 21 }
def vc_X3_writeSlip_0 (x1 : Int32) (x2 : Int32) (x3 : Int64) (x5 : Int64) (x7 : Int64) (I : mm_I) (L : mm_L) (Q : mm_I → mm_L → Prop) : Prop :=
  vc_X3_placeOf x1 x2 I L (fun r333 I331 L332 => vp_in (r333 + 0) 288 ∧ vp_in (r333 + 1) 288 ∧ vp_in (r333 + 2) 288 ∧ Q I331 (mm_uL (mm_uL (mm_uL L332 15 ((r333 + 0)).toNatClampNeg x3) 15 ((r333 + 1)).toNatClampNeg x5) 15 ((r333 + 2)).toNatClampNeg x7))
set_option maxHeartbeats 4000000 in
set_option maxRecDepth 100000 in
theorem w_X3_writeSlip_0 {p : Program} {l : Launch} {e : Env} {s : State} {m : MethodId} {args : Array Value} {below : List Frame} {meth : Method} {c : Code} {G : mm_G} (hcx : mm_cx c_X3_writeSlip none 10 RX3 G p s m args meth c) (x1 : Int32) (x2 : Int32) (x3 : Int64) (x5 : Int64) (x7 : Int64) (I : mm_I) (L : mm_L) (Q : mm_I → mm_L → Prop)  (hv : vc_X3_writeSlip_0 x1 x2 x3 x5 x7 I L Q) {H : Heap} {locs : List Loc} (hP : mm_PW G I L H) (hD : mm_DW G I L) (hS : va_S G.2.2.2.1 s.heap H locs) {ls : Array Slot} (hl : lv_has ls 10 [(0, .ref (G.2.2.1 14)), (1, .int x1), (2, .int x2), (3, .long x3), (5, .long x5), (7, .long x7)]) : W p l e (headSpec w_X3_writeSlip rm_X3_writeSlip).room s m args below meth c H locs 0 0 (MQ below (mm_qv G Q) args s 0 0 G.2.2.2.1) (F0 m 0 ls []) := by
  obtain ⟨hx, hb, hr, hlocks, hml, hown, hg, hK, hC⟩ := id hcx
  unfold vc_X3_writeSlip_0 at hv
  refine lv_iload_n hx hb d_X3_writeSlip_0 rfl (lv_at hl 1 rfl) ?_
  refine lv_iload_n hx hb d_X3_writeSlip_1 rfl (lv_at hl 2 rfl) ?_
  refine va_calli (va_runS (As := [.int x1, .int x2]) (rest := []) ⟨hx, hb, hml, hown, hg⟩ (m_X3_placeOf l G x1 x2 I L _  hv) (va_cwS 2 hg (mm_gS k_137 k_138 k_139 kc_X3_placeOf) rfl rfl rfl (by decide +kernel) ⟨Nat.le_of_ble_eq_true rfl, Nat.le_of_ble_eq_true rfl⟩) ⟨mm_blind, fun U hU hW => mm_call hP hK hD hC hU hS hW⟩ rfl rfl hl.1 rfl (lv_room (Nat.le_of_ble_eq_true rfl)) d_X3_writeSlip_2 ⟨Nat.zero_le _, Nat.zero_le _⟩) hS (fun q _ h => h) (fun q h => h) (fun r333 u t H locs ht hvm hv hP hz1 hk1 hS => ?_)
  obtain ⟨I331, L332⟩ := u
  dsimp only at hv hP
  rw [ht] at hP
  have hD : mm_DW G I331 L332 := mm_D_any hD
  refine lv_istore (lv' := [(9, .int r333), (0, .ref (G.2.2.1 14)), (1, .int x1), (2, .int x2), (3, .long x3), (5, .long x5), (7, .long x7)]) hx hb d_X3_writeSlip_5 hl (by decide) rfl (fun ls hl => ?_)
  refine lv_aload_n hx hb d_X3_writeSlip_7 rfl (lv_at hl 1 rfl) ?_
  refine mm_gr (D := G.1) (C := RX3) (T := TX3) (N0 := 4) (r := 15) hx hb hg in_X3 hown hK hP (t := 14) (by decide) rfl rfl 0 (by decide) (hg _ k_136) (fun _ h9 => h9) rfl d_X3_writeSlip_8 ?_
  refine lv_iload hx hb d_X3_writeSlip_11 (lv_at hl 0 rfl) ?_
  refine lv_iconst (v := 0) hx hb d_X3_writeSlip_13 (by decide) ?_
  refine lv_iadd hx hb d_X3_writeSlip_14 ?_
  refine lv_lload_n hx hb d_X3_writeSlip_15 rfl (lv_at hl 4 rfl) ?_
  obtain ⟨h334, hv⟩ := hv
  refine mm_last (D := G.1) hx hb hK hP hD hS (t := 15) (by decide) rfl rfl h334 d_X3_writeSlip_16 (fun H locs hP hD hS => ?_)
  refine lv_aload_n hx hb d_X3_writeSlip_17 rfl (lv_at hl 1 rfl) ?_
  refine mm_gr (D := G.1) (C := RX3) (T := TX3) (N0 := 4) (r := 15) hx hb hg in_X3 hown hK hP (t := 14) (by decide) rfl rfl 0 (by decide) (hg _ k_136) (fun _ h9 => h9) rfl d_X3_writeSlip_18 ?_
  refine lv_iload hx hb d_X3_writeSlip_21 (lv_at hl 0 rfl) ?_
  refine lv_iconst (v := 1) hx hb d_X3_writeSlip_23 (by decide) ?_
  refine lv_iadd hx hb d_X3_writeSlip_24 ?_
  refine lv_lload hx hb d_X3_writeSlip_25 (lv_at hl 5 rfl) ?_
  obtain ⟨h335, hv⟩ := hv
  refine mm_last (D := G.1) hx hb hK hP hD hS (t := 15) (by decide) rfl rfl h335 d_X3_writeSlip_27 (fun H locs hP hD hS => ?_)
  refine lv_aload_n hx hb d_X3_writeSlip_28 rfl (lv_at hl 1 rfl) ?_
  refine mm_gr (D := G.1) (C := RX3) (T := TX3) (N0 := 4) (r := 15) hx hb hg in_X3 hown hK hP (t := 14) (by decide) rfl rfl 0 (by decide) (hg _ k_136) (fun _ h9 => h9) rfl d_X3_writeSlip_29 ?_
  refine lv_iload hx hb d_X3_writeSlip_32 (lv_at hl 0 rfl) ?_
  refine lv_iconst (v := 2) hx hb d_X3_writeSlip_34 (by decide) ?_
  refine lv_iadd hx hb d_X3_writeSlip_35 ?_
  refine lv_lload hx hb d_X3_writeSlip_36 (lv_at hl 6 rfl) ?_
  obtain ⟨h336, hv⟩ := hv
  refine mm_last (D := G.1) hx hb hK hP hD hS (t := 15) (by decide) rfl rfl h336 d_X3_writeSlip_38 (fun H locs hP hD hS => ?_)
  exact W.vret hx hb hr (fun t ht hW => ⟨⟨(I331, (mm_uL (mm_uL (mm_uL L332 15 ((r333 + 0)).toNatClampNeg x3) 15 ((r333 + 1)).toNatClampNeg x5) 15 ((r333 + 2)).toNatClampNeg x7)), rfl, hv, mm_mv ht hP⟩, hS.F ht⟩) hS.2.2 d_X3_writeSlip_39
abbrev vc_X3_writeSlip (x1 : Int32) (x2 : Int32) (x3 : Int64) (x5 : Int64) (x7 : Int64) (I : mm_I) (L : mm_L) (Q : mm_I → mm_L → Prop) : Prop := vc_X3_writeSlip_0 x1 x2 x3 x5 x7 I L Q
set_option maxHeartbeats 4000000 in
set_option maxRecDepth 100000 in
theorem m_X3_writeSlip (l : Launch) (G : mm_G) (x1 : Int32) (x2 : Int32) (x3 : Int64) (x5 : Int64) (x7 : Int64) (I : mm_I) (L : mm_L) (Q : mm_I → mm_L → Prop)  (hv : vc_X3_writeSlip x1 x2 x3 x5 x7 I L Q) : Met l y_X3_writeSlip w_X3_writeSlip rm_X3_writeSlip (mm_pre G [.ref (G.2.2.1 14), .int x1, .int x2, .long x3, .long x5, .long x7] I L) (mm_qv G Q) 0 0 G.2.2.2.1 := by
  refine Met.ofW (cc := c_X3_writeSlip) (maxL := 10) (ret := none) (by decide) rfl ?_
  intro p e s m args below meth c s₁ B hml hw
  obtain ⟨rfl, hP, hK, hD, hC⟩ := hw
  have hts := atoms_spec (ws := w_X3_writeSlip) B.pre
  have hown : s.vm.findClass RX3 = some m.cls := findClass_of_methodNamed B.named
  have hl := lv_entry ([.ref (G.2.2.1 14), .int x1, .int x2, .long x3, .long x5, .long x7]) (n := 10) (Nat.le_of_ble_eq_true rfl)
  rw [lg_entry_eq]
  generalize (lg_sl ([.ref (G.2.2.1 14), .int x1, .int x2, .long x3, .long x5, .long x7]) ++ List.replicate (10 - (lg_sl ([.ref (G.2.2.1 14), .int x1, .int x2, .long x3, .long x5, .long x7])).length) Slot.unset).toArray = ls at hl ⊢
  have hl : lv_has ls 10 [(0, .ref (G.2.2.1 14)), (1, .int x1), (2, .int x2), (3, .long x3), (5, .long x5), (7, .long x7)] := hl
  exact w_X3_writeSlip_0 ⟨B.exec, B.bytes, B.returns, B.notSynchronized, hml, hown, fun w h => hts w (List.mem_cons_of_mem _ h), hK, hC⟩ x1 x2 x3 x5 x7 I L Q  hv hP hD va_S.rf hl
abbrev rm_X3_hold : Room := { frames := 0, cells := 0, slots := 0, locals := 0 }
def vc_X3_hold_0 (x1 : Int32) (x2 : Int32) (x3 : Int32) (I : mm_I) (L : mm_L) (Q : mm_I → mm_L → Prop) : Prop :=
  vp_in ((x1 * 6) + x2) 96 ∧ Q (mm_uI I 16 (((x1 * 6) + x2)).toNatClampNeg x3) L
set_option maxHeartbeats 4000000 in
set_option maxRecDepth 100000 in
theorem w_X3_hold_0 {p : Program} {l : Launch} {e : Env} {s : State} {m : MethodId} {args : Array Value} {below : List Frame} {meth : Method} {c : Code} {G : mm_G} (hcx : mm_cx c_X3_hold none 4 RX3 G p s m args meth c) (x1 : Int32) (x2 : Int32) (x3 : Int32) (I : mm_I) (L : mm_L) (Q : mm_I → mm_L → Prop)  (hv : vc_X3_hold_0 x1 x2 x3 I L Q) {H : Heap} {locs : List Loc} (hP : mm_PW G I L H) (hD : mm_DW G I L) (hS : va_S G.2.2.2.1 s.heap H locs) {ls : Array Slot} (hl : lv_has ls 4 [(0, .ref (G.2.2.1 14)), (1, .int x1), (2, .int x2), (3, .int x3)]) : W p l e (headSpec w_X3_hold rm_X3_hold).room s m args below meth c H locs 0 0 (MQ below (mm_qv G Q) args s 0 0 G.2.2.2.1) (F0 m 0 ls []) := by
  obtain ⟨hx, hb, hr, hlocks, hml, hown, hg, hK, hC⟩ := id hcx
  unfold vc_X3_hold_0 at hv
  refine lv_aload_n hx hb d_X3_hold_0 rfl (lv_at hl 0 rfl) ?_
  refine mm_gr (D := G.1) (C := RX3) (T := TX3) (N0 := 4) (r := 16) hx hb hg in_X3 hown hK hP (t := 14) (by decide) rfl rfl 1 (by decide) (hg _ k_140) (fun _ h9 => h9) rfl d_X3_hold_1 ?_
  refine lv_iload_n hx hb d_X3_hold_4 rfl (lv_at hl 1 rfl) ?_
  refine lv_bipush (v := 6) hx hb d_X3_hold_5 (by decide) ?_
  refine lv_imul hx hb d_X3_hold_7 ?_
  refine lv_iload_n hx hb d_X3_hold_8 rfl (lv_at hl 2 rfl) ?_
  refine lv_iadd hx hb d_X3_hold_9 ?_
  refine lv_iload_n hx hb d_X3_hold_10 rfl (lv_at hl 3 rfl) ?_
  obtain ⟨h337, hv⟩ := hv
  refine mm_iast (D := G.1) hx hb hK hP hD hS (t := 16) (by decide) rfl rfl h337 d_X3_hold_11 (fun H locs hP hD hS => ?_)
  exact W.vret hx hb hr (fun t ht hW => ⟨⟨((mm_uI I 16 (((x1 * 6) + x2)).toNatClampNeg x3), L), rfl, hv, mm_mv ht hP⟩, hS.F ht⟩) hS.2.2 d_X3_hold_12
abbrev vc_X3_hold (x1 : Int32) (x2 : Int32) (x3 : Int32) (I : mm_I) (L : mm_L) (Q : mm_I → mm_L → Prop) : Prop := vc_X3_hold_0 x1 x2 x3 I L Q
set_option maxHeartbeats 4000000 in
set_option maxRecDepth 100000 in
theorem m_X3_hold (l : Launch) (G : mm_G) (x1 : Int32) (x2 : Int32) (x3 : Int32) (I : mm_I) (L : mm_L) (Q : mm_I → mm_L → Prop)  (hv : vc_X3_hold x1 x2 x3 I L Q) : Met l y_X3_hold w_X3_hold rm_X3_hold (mm_pre G [.ref (G.2.2.1 14), .int x1, .int x2, .int x3] I L) (mm_qv G Q) 0 0 G.2.2.2.1 := by
  refine Met.ofW (cc := c_X3_hold) (maxL := 4) (ret := none) (by decide) rfl ?_
  intro p e s m args below meth c s₁ B hml hw
  obtain ⟨rfl, hP, hK, hD, hC⟩ := hw
  have hts := atoms_spec (ws := w_X3_hold) B.pre
  have hown : s.vm.findClass RX3 = some m.cls := findClass_of_methodNamed B.named
  have hl := lv_entry ([.ref (G.2.2.1 14), .int x1, .int x2, .int x3]) (n := 4) (Nat.le_of_ble_eq_true rfl)
  rw [lg_entry_eq]
  generalize (lg_sl ([.ref (G.2.2.1 14), .int x1, .int x2, .int x3]) ++ List.replicate (4 - (lg_sl ([.ref (G.2.2.1 14), .int x1, .int x2, .int x3])).length) Slot.unset).toArray = ls at hl ⊢
  have hl : lv_has ls 4 [(0, .ref (G.2.2.1 14)), (1, .int x1), (2, .int x2), (3, .int x3)] := hl
  exact w_X3_hold_0 ⟨B.exec, B.bytes, B.returns, B.notSynchronized, hml, hown, fun w h => hts w (List.mem_cons_of_mem _ h), hK, hC⟩ x1 x2 x3 I L Q  hv hP hD va_S.rf hl
abbrev rm_X3_wipe : Room := { frames := 2, cells := 0, slots := 0, locals := 50 }
def vc_X3_wipe_0 (x1 : Int32) (x2 : Int32) (I : mm_I) (L : mm_L) (Q : mm_I → mm_L → Prop) : Prop :=
  vc_X3_writeSlip x1 x2 1000000000000 1000000000000 1000000000000 I L (fun I338 L339 => vc_X3_hold x1 x2 0 I338 L339 (fun I341 L342 => Q I341 L342))
set_option maxHeartbeats 4000000 in
set_option maxRecDepth 100000 in
theorem w_X3_wipe_0 {p : Program} {l : Launch} {e : Env} {s : State} {m : MethodId} {args : Array Value} {below : List Frame} {meth : Method} {c : Code} {G : mm_G} (hcx : mm_cx c_X3_wipe none 3 RX3 G p s m args meth c) (x1 : Int32) (x2 : Int32) (I : mm_I) (L : mm_L) (Q : mm_I → mm_L → Prop)  (hv : vc_X3_wipe_0 x1 x2 I L Q) {H : Heap} {locs : List Loc} (hP : mm_PW G I L H) (hD : mm_DW G I L) (hS : va_S G.2.2.2.1 s.heap H locs) {ls : Array Slot} (hl : lv_has ls 3 [(0, .ref (G.2.2.1 14)), (1, .int x1), (2, .int x2)]) : W p l e (headSpec w_X3_wipe rm_X3_wipe).room s m args below meth c H locs 0 0 (MQ below (mm_qv G Q) args s 0 0 G.2.2.2.1) (F0 m 0 ls []) := by
  obtain ⟨hx, hb, hr, hlocks, hml, hown, hg, hK, hC⟩ := id hcx
  unfold vc_X3_wipe_0 at hv
  refine lv_aload_n hx hb d_X3_wipe_0 rfl (lv_at hl 0 rfl) ?_
  refine lv_iload_n hx hb d_X3_wipe_1 rfl (lv_at hl 1 rfl) ?_
  refine lv_iload_n hx hb d_X3_wipe_2 rfl (lv_at hl 2 rfl) ?_
  refine lv_ldc2 (v := 1000000000000) hx hb hown (hg _ k_141) d_X3_wipe_3 ?_
  refine lv_ldc2 (v := 1000000000000) hx hb hown (hg _ k_141) d_X3_wipe_6 ?_
  refine lv_ldc2 (v := 1000000000000) hx hb hown (hg _ k_141) d_X3_wipe_9 ?_
  refine va_callv (va_runV (As := [.int x1, .int x2, .long 1000000000000, .long 1000000000000, .long 1000000000000]) (rest := []) ⟨hx, hb, hml, hown, hg⟩ (m_X3_writeSlip l G x1 x2 1000000000000 1000000000000 1000000000000 I L _  hv) (cwV 5 hg (mm_gV k_145 k_146 k_147 k_139 kc_X3_writeSlip) rfl rfl rfl (by decide +kernel) ⟨Nat.le_of_ble_eq_true rfl, Nat.le_of_ble_eq_true rfl⟩) ⟨mm_blind, mm_recv hK hP (t := 14) (by decide) rfl rfl, fun U hU hW => mm_call hP hK hD hC hU hS hW⟩ rfl rfl hl.1 rfl (lv_room (Nat.le_of_ble_eq_true rfl)) d_X3_wipe_12 ⟨Nat.zero_le _, Nat.zero_le _⟩) hS (fun q _ h => h) (fun q h => h) (fun u t H locs ht hvm hv hP hz1 hk1 hS => ?_)
  obtain ⟨I338, L339⟩ := u
  dsimp only at hv hP
  rw [ht] at hP
  have hD : mm_DW G I338 L339 := mm_D_any hD
  refine lv_aload_n hx hb d_X3_wipe_15 rfl (lv_at hl 0 rfl) ?_
  refine lv_iload_n hx hb d_X3_wipe_16 rfl (lv_at hl 1 rfl) ?_
  refine lv_iload_n hx hb d_X3_wipe_17 rfl (lv_at hl 2 rfl) ?_
  refine lv_iconst (v := 0) hx hb d_X3_wipe_18 (by decide) ?_
  refine va_callv (va_runV (As := [.int x1, .int x2, .int 0]) (rest := []) ⟨hx, hb, hml, hown, hg⟩ (m_X3_hold l G x1 x2 0 I338 L339 _  hv) (cwV 3 hg (mm_gV k_142 k_143 k_144 k_139 kc_X3_hold) rfl rfl rfl (by decide +kernel) ⟨Nat.le_of_ble_eq_true rfl, Nat.le_of_ble_eq_true rfl⟩) ⟨mm_blind, mm_recv hK hP (t := 14) (by decide) rfl rfl, fun U hU hW => mm_call hP hK hD hC hU hS hW⟩ rfl rfl hl.1 rfl (lv_room (Nat.le_of_ble_eq_true rfl)) d_X3_wipe_19 ⟨Nat.zero_le _, Nat.zero_le _⟩) hS (fun q _ h => h) (fun q h => h) (fun u t H locs ht hvm hv hP hz1 hk1 hS => ?_)
  obtain ⟨I341, L342⟩ := u
  dsimp only at hv hP
  rw [ht] at hP
  have hD : mm_DW G I341 L342 := mm_D_any hD
  exact W.vret hx hb hr (fun t ht hW => ⟨⟨(I341, L342), rfl, hv, mm_mv ht hP⟩, hS.F ht⟩) hS.2.2 d_X3_wipe_22
abbrev vc_X3_wipe (x1 : Int32) (x2 : Int32) (I : mm_I) (L : mm_L) (Q : mm_I → mm_L → Prop) : Prop := vc_X3_wipe_0 x1 x2 I L Q
set_option maxHeartbeats 4000000 in
set_option maxRecDepth 100000 in
theorem m_X3_wipe (l : Launch) (G : mm_G) (x1 : Int32) (x2 : Int32) (I : mm_I) (L : mm_L) (Q : mm_I → mm_L → Prop)  (hv : vc_X3_wipe x1 x2 I L Q) : Met l y_X3_wipe w_X3_wipe rm_X3_wipe (mm_pre G [.ref (G.2.2.1 14), .int x1, .int x2] I L) (mm_qv G Q) 0 0 G.2.2.2.1 := by
  refine Met.ofW (cc := c_X3_wipe) (maxL := 3) (ret := none) (by decide) rfl ?_
  intro p e s m args below meth c s₁ B hml hw
  obtain ⟨rfl, hP, hK, hD, hC⟩ := hw
  have hts := atoms_spec (ws := w_X3_wipe) B.pre
  have hown : s.vm.findClass RX3 = some m.cls := findClass_of_methodNamed B.named
  have hl := lv_entry ([.ref (G.2.2.1 14), .int x1, .int x2]) (n := 3) (Nat.le_of_ble_eq_true rfl)
  rw [lg_entry_eq]
  generalize (lg_sl ([.ref (G.2.2.1 14), .int x1, .int x2]) ++ List.replicate (3 - (lg_sl ([.ref (G.2.2.1 14), .int x1, .int x2])).length) Slot.unset).toArray = ls at hl ⊢
  have hl : lv_has ls 3 [(0, .ref (G.2.2.1 14)), (1, .int x1), (2, .int x2)] := hl
  exact w_X3_wipe_0 ⟨B.exec, B.bytes, B.returns, B.notSynchronized, hml, hown, fun w h => hts w (List.mem_cons_of_mem _ h), hK, hC⟩ x1 x2 I L Q  hv hP hD va_S.rf hl
abbrev rm_X1_reasonOf : Room := { frames := 1, cells := 0, slots := 0, locals := 21 }
def vc_X1_reasonOf_0 (x0 : Int64) (I : mm_I) (L : mm_L) (Q : Int32 → mm_I → mm_L → Prop) : Prop :=
  vc_X5_faultOf x0 I L (fun r346 I344 L345 => Q ((r346 - 1000000000100)).toInt32 I344 L345)
set_option maxHeartbeats 4000000 in
set_option maxRecDepth 100000 in
theorem w_X1_reasonOf_0 {p : Program} {l : Launch} {e : Env} {s : State} {m : MethodId} {args : Array Value} {below : List Frame} {meth : Method} {c : Code} {G : mm_G} (hcx : mm_cx c_X1_reasonOf (some .int) 2 RX1 G p s m args meth c) (x0 : Int64) (I : mm_I) (L : mm_L) (Q : Int32 → mm_I → mm_L → Prop)  (hv : vc_X1_reasonOf_0 x0 I L Q) {H : Heap} {locs : List Loc} (hP : mm_PW G I L H) (hD : mm_DW G I L) (hS : va_S G.2.2.2.1 s.heap H locs) {ls : Array Slot} (hl : lv_has ls 2 [(0, .long x0)]) : W p l e (headSpec w_X1_reasonOf rm_X1_reasonOf).room s m args below meth c H locs 0 0 (MQ below (mm_qi G Q) args s 0 0 G.2.2.2.1) (F0 m 0 ls []) := by
  obtain ⟨hx, hb, hr, hlocks, hml, hown, hg, hK, hC⟩ := id hcx
  unfold vc_X1_reasonOf_0 at hv
  refine lv_lload_n hx hb d_X1_reasonOf_0 rfl (lv_at hl 0 rfl) ?_
  refine va_calll (va_runS (As := [.long x0]) (rest := []) ⟨hx, hb, hml, hown, hg⟩ (m_X5_faultOf l G x0 I L _  hv) (va_cwS 1 hg (mm_gS k_149 k_80 k_63 kc_X5_faultOf) rfl rfl rfl (by decide +kernel) ⟨Nat.le_of_ble_eq_true rfl, Nat.le_of_ble_eq_true rfl⟩) ⟨mm_blind, fun U hU hW => mm_call hP hK hD hC hU hS hW⟩ rfl rfl hl.1 rfl (lv_room (Nat.le_of_ble_eq_true rfl)) d_X1_reasonOf_1 ⟨Nat.zero_le _, Nat.zero_le _⟩) hS (fun q _ h => h) (fun q h => h) (fun r346 u t H locs ht hvm hv hP hz1 hk1 hS => ?_)
  obtain ⟨I344, L345⟩ := u
  dsimp only at hv hP
  rw [ht] at hP
  have hD : mm_DW G I344 L345 := mm_D_any hD
  refine lv_ldc2 (v := 1000000000100) hx hb hown (hg _ k_148) d_X1_reasonOf_4 ?_
  refine lv_lsub hx hb d_X1_reasonOf_7 ?_
  refine lv_l2i (v := ((r346 - 1000000000100)).toInt32) hx hb d_X1_reasonOf_8 rfl ?_
  exact W.iret (v := ((r346 - 1000000000100)).toInt32) hx hb hr (fun t ht hW => ⟨⟨((r346 - 1000000000100)).toInt32, (I344, L345), rfl, hv, mm_mv ht hP⟩, hS.F ht⟩) hS.2.2 d_X1_reasonOf_9
abbrev vc_X1_reasonOf (x0 : Int64) (I : mm_I) (L : mm_L) (Q : Int32 → mm_I → mm_L → Prop) : Prop := vc_X1_reasonOf_0 x0 I L Q
set_option maxHeartbeats 4000000 in
set_option maxRecDepth 100000 in
theorem m_X1_reasonOf (l : Launch) (G : mm_G) (x0 : Int64) (I : mm_I) (L : mm_L) (Q : Int32 → mm_I → mm_L → Prop)  (hv : vc_X1_reasonOf x0 I L Q) : Met l y_X1_reasonOf w_X1_reasonOf rm_X1_reasonOf (mm_pre G [.long x0] I L) (mm_qi G Q) 0 0 G.2.2.2.1 := by
  refine Met.ofW (cc := c_X1_reasonOf) (maxL := 2) (ret := (some .int)) (by decide) rfl ?_
  intro p e s m args below meth c s₁ B hml hw
  obtain ⟨rfl, hP, hK, hD, hC⟩ := hw
  have hts := atoms_spec (ws := w_X1_reasonOf) B.pre
  have hown : s.vm.findClass RX1 = some m.cls := findClass_of_methodNamed B.named
  have hl := lv_entry ([.long x0]) (n := 2) (Nat.le_of_ble_eq_true rfl)
  rw [lg_entry_eq]
  generalize (lg_sl ([.long x0]) ++ List.replicate (2 - (lg_sl ([.long x0])).length) Slot.unset).toArray = ls at hl ⊢
  have hl : lv_has ls 2 [(0, .long x0)] := hl
  exact w_X1_reasonOf_0 ⟨B.exec, B.bytes, B.returns, B.notSynchronized, hml, hown, fun w h => hts w (List.mem_cons_of_mem _ h), hK, hC⟩ x0 I L Q  hv hP hD va_S.rf hl
abbrev rm_X1_reasonToHold : Room := { frames := 2, cells := 0, slots := 0, locals := 42 }
def vc_X1_reasonToHold_0 (p0 : Nat) (x1 : Int64) (x3 : Int64) (x5 : Int64) (I : mm_I) (L : mm_L) (Q : Int32 → mm_I → mm_L → Prop) : Prop :=
  vc_X5_isInt x1 I L (fun r349 I347 L348 => (¬ r349 = 0 → vc_X5_isInt x3 I347 L348 (fun r352 I350 L351 => (¬ r352 = 0 → vc_X5_isInt x5 I350 L351 (fun r355 I353 L354 => (¬ r355 = 0 → ((x1 - x3) = x5 → vc_X5_isInt ((L354 (24 + p0) 1) + x1) I353 L354 (fun r358 I356 L357 => (r358 = 0 → Q 6 I356 L357) ∧ (¬ r358 = 0 → vc_X5_isInt ((L357 (24 + p0) 2) + x3) I356 L357 (fun r361 I359 L360 => (¬ r361 = 0 → Q 0 I359 L360) ∧ (r361 = 0 → Q 6 I359 L360))))) ∧ (¬ (x1 - x3) = x5 → Q 5 I353 L354)) ∧ (r355 = 0 → vc_X1_reasonOf x5 I353 L354 (fun r364 I362 L363 => Q r364 I362 L363)))) ∧ (r352 = 0 → vc_X1_reasonOf x3 I350 L351 (fun r367 I365 L366 => Q r367 I365 L366)))) ∧ (r349 = 0 → vc_X1_reasonOf x1 I347 L348 (fun r370 I368 L369 => Q r370 I368 L369)))
set_option maxHeartbeats 4000000 in
set_option maxRecDepth 100000 in
theorem w_X1_reasonToHold_0 {p : Program} {l : Launch} {e : Env} {s : State} {m : MethodId} {args : Array Value} {below : List Frame} {meth : Method} {c : Code} {G : mm_G} (hcx : mm_cx c_X1_reasonToHold (some .int) 7 RX1 G p s m args meth c) (p0 : Nat) (x1 : Int64) (x3 : Int64) (x5 : Int64) (I : mm_I) (L : mm_L) (Q : Int32 → mm_I → mm_L → Prop) (hp0 : p0 < 6) (hv : vc_X1_reasonToHold_0 p0 x1 x3 x5 I L Q) {H : Heap} {locs : List Loc} (hP : mm_PW G I L H) (hD : mm_DW G I L) (hS : va_S G.2.2.2.1 s.heap H locs) {ls : Array Slot} (hl : lv_has ls 7 [(0, .ref (G.2.2.1 (24 + p0))), (1, .long x1), (3, .long x3), (5, .long x5)]) : W p l e (headSpec w_X1_reasonToHold rm_X1_reasonToHold).room s m args below meth c H locs 0 0 (MQ below (mm_qi G Q) args s 0 0 G.2.2.2.1) (F0 m 0 ls []) := by
  obtain ⟨hx, hb, hr, hlocks, hml, hown, hg, hK, hC⟩ := id hcx
  unfold vc_X1_reasonToHold_0 at hv
  refine lv_lload_n hx hb d_X1_reasonToHold_0 rfl (lv_at hl 1 rfl) ?_
  refine va_calli (va_runS (As := [.long x1]) (rest := []) ⟨hx, hb, hml, hown, hg⟩ (m_X5_isInt l G x1 I L _  hv) (va_cwS 1 hg (mm_gS k_61 k_62 k_63 kc_X5_isInt) rfl rfl rfl (by decide +kernel) ⟨Nat.le_of_ble_eq_true rfl, Nat.le_of_ble_eq_true rfl⟩) ⟨mm_blind, fun U hU hW => mm_call hP hK hD hC hU hS hW⟩ rfl rfl hl.1 rfl (lv_room (Nat.le_of_ble_eq_true rfl)) d_X1_reasonToHold_1 ⟨Nat.zero_le _, Nat.zero_le _⟩) hS (fun q _ h => h) (fun q h => h) (fun r349 u t H locs ht hvm hv hP hz1 hk1 hS => ?_)
  obtain ⟨I347, L348⟩ := u
  dsimp only at hv hP
  rw [ht] at hP
  have hD : mm_DW G I347 L348 := mm_D_any hD
  refine lv_if_ne (tgt := 12) hx hb d_X1_reasonToHold_4 (by decide) (fun hc => ?_) (fun hc => ?_)
  · have hv := hv.1 hc
    refine lv_lload_n hx hb d_X1_reasonToHold_12 rfl (lv_at hl 2 rfl) ?_
    refine va_calli (va_runS (As := [.long x3]) (rest := []) ⟨hx, hb, hml, hown, hg⟩ (m_X5_isInt l G x3 I347 L348 _  hv) (va_cwS 1 hg (mm_gS k_61 k_62 k_63 kc_X5_isInt) rfl rfl rfl (by decide +kernel) ⟨Nat.le_of_ble_eq_true rfl, Nat.le_of_ble_eq_true rfl⟩) ⟨mm_blind, fun U hU hW => mm_call hP hK hD hC hU hS hW⟩ rfl rfl hl.1 rfl (lv_room (Nat.le_of_ble_eq_true rfl)) d_X1_reasonToHold_13 ⟨Nat.zero_le _, Nat.zero_le _⟩) hS (fun q _ h => h) (fun q h => h) (fun r352 u t H locs ht hvm hv hP hz1 hk1 hS => ?_)
    obtain ⟨I350, L351⟩ := u
    dsimp only at hv hP
    rw [ht] at hP
    have hD : mm_DW G I350 L351 := mm_D_any hD
    refine lv_if_ne (tgt := 24) hx hb d_X1_reasonToHold_16 (by decide) (fun hc => ?_) (fun hc => ?_)
    · have hv := hv.1 hc
      refine lv_lload hx hb d_X1_reasonToHold_24 (lv_at hl 3 rfl) ?_
      refine va_calli (va_runS (As := [.long x5]) (rest := []) ⟨hx, hb, hml, hown, hg⟩ (m_X5_isInt l G x5 I350 L351 _  hv) (va_cwS 1 hg (mm_gS k_61 k_62 k_63 kc_X5_isInt) rfl rfl rfl (by decide +kernel) ⟨Nat.le_of_ble_eq_true rfl, Nat.le_of_ble_eq_true rfl⟩) ⟨mm_blind, fun U hU hW => mm_call hP hK hD hC hU hS hW⟩ rfl rfl hl.1 rfl (lv_room (Nat.le_of_ble_eq_true rfl)) d_X1_reasonToHold_26 ⟨Nat.zero_le _, Nat.zero_le _⟩) hS (fun q _ h => h) (fun q h => h) (fun r355 u t H locs ht hvm hv hP hz1 hk1 hS => ?_)
      obtain ⟨I353, L354⟩ := u
      dsimp only at hv hP
      rw [ht] at hP
      have hD : mm_DW G I353 L354 := mm_D_any hD
      refine lv_if_ne (tgt := 38) hx hb d_X1_reasonToHold_29 (by decide) (fun hc => ?_) (fun hc => ?_)
      · have hv := hv.1 hc
        refine lv_lload_n hx hb d_X1_reasonToHold_38 rfl (lv_at hl 1 rfl) ?_
        refine lv_lload_n hx hb d_X1_reasonToHold_39 rfl (lv_at hl 2 rfl) ?_
        refine lv_lsub hx hb d_X1_reasonToHold_40 ?_
        refine lv_lload hx hb d_X1_reasonToHold_41 (lv_at hl 3 rfl) ?_
        refine W.lcmp hx hb d_X1_reasonToHold_43 ?_
        refine lv_if_eq (tgt := 49) hx hb d_X1_reasonToHold_44 (by decide) (fun hc => ?_) (fun hc => ?_)
        · have hv := hv.1 ((lg_cmp_eq _ _).mp hc)
          refine lv_aload_n hx hb d_X1_reasonToHold_49 rfl (lv_at hl 0 rfl) ?_
          refine mm_gl (D := G.1) (C := RX1) (T := TX1) (N0 := 4) hx hb hg in_X1 hown hK hP (t := (24 + p0)) (ly_N_PS hp0) (ly_PS hp0) rfl 1 (by decide) (hg _ k_59) (fun _ h9 => h9) rfl d_X1_reasonToHold_50 ?_
          refine lv_lload_n hx hb d_X1_reasonToHold_53 rfl (lv_at hl 1 rfl) ?_
          refine lv_ladd hx hb d_X1_reasonToHold_54 ?_
          refine va_calli (va_runS (As := [.long ((L354 (24 + p0) 1) + x1)]) (rest := []) ⟨hx, hb, hml, hown, hg⟩ (m_X5_isInt l G ((L354 (24 + p0) 1) + x1) I353 L354 _  hv) (va_cwS 1 hg (mm_gS k_61 k_62 k_63 kc_X5_isInt) rfl rfl rfl (by decide +kernel) ⟨Nat.le_of_ble_eq_true rfl, Nat.le_of_ble_eq_true rfl⟩) ⟨mm_blind, fun U hU hW => mm_call hP hK hD hC hU hS hW⟩ rfl rfl hl.1 rfl (lv_room (Nat.le_of_ble_eq_true rfl)) d_X1_reasonToHold_55 ⟨Nat.zero_le _, Nat.zero_le _⟩) hS (fun q _ h => h) (fun q h => h) (fun r358 u t H locs ht hvm hv hP hz1 hk1 hS => ?_)
          obtain ⟨I356, L357⟩ := u
          dsimp only at hv hP
          rw [ht] at hP
          have hD : mm_DW G I356 L357 := mm_D_any hD
          refine lv_if_eq (tgt := 73) hx hb d_X1_reasonToHold_58 (by decide) (fun hc => ?_) (fun hc => ?_)
          · have hv := hv.1 hc
            refine lv_bipush (v := 6) hx hb d_X1_reasonToHold_73 (by decide) ?_
            exact W.iret (v := 6) hx hb hr (fun t ht hW => ⟨⟨6, (I356, L357), rfl, hv, mm_mv ht hP⟩, hS.F ht⟩) hS.2.2 d_X1_reasonToHold_75
          · have hv := hv.2 hc
            refine lv_aload_n hx hb d_X1_reasonToHold_61 rfl (lv_at hl 0 rfl) ?_
            refine mm_gl (D := G.1) (C := RX1) (T := TX1) (N0 := 4) hx hb hg in_X1 hown hK hP (t := (24 + p0)) (ly_N_PS hp0) (ly_PS hp0) rfl 2 (by decide) (hg _ k_60) (fun _ h9 => h9) rfl d_X1_reasonToHold_62 ?_
            refine lv_lload_n hx hb d_X1_reasonToHold_65 rfl (lv_at hl 2 rfl) ?_
            refine lv_ladd hx hb d_X1_reasonToHold_66 ?_
            refine va_calli (va_runS (As := [.long ((L357 (24 + p0) 2) + x3)]) (rest := []) ⟨hx, hb, hml, hown, hg⟩ (m_X5_isInt l G ((L357 (24 + p0) 2) + x3) I356 L357 _  hv) (va_cwS 1 hg (mm_gS k_61 k_62 k_63 kc_X5_isInt) rfl rfl rfl (by decide +kernel) ⟨Nat.le_of_ble_eq_true rfl, Nat.le_of_ble_eq_true rfl⟩) ⟨mm_blind, fun U hU hW => mm_call hP hK hD hC hU hS hW⟩ rfl rfl hl.1 rfl (lv_room (Nat.le_of_ble_eq_true rfl)) d_X1_reasonToHold_67 ⟨Nat.zero_le _, Nat.zero_le _⟩) hS (fun q _ h => h) (fun q h => h) (fun r361 u t H locs ht hvm hv hP hz1 hk1 hS => ?_)
            obtain ⟨I359, L360⟩ := u
            dsimp only at hv hP
            rw [ht] at hP
            have hD : mm_DW G I359 L360 := mm_D_any hD
            refine lv_if_ne (tgt := 76) hx hb d_X1_reasonToHold_70 (by decide) (fun hc => ?_) (fun hc => ?_)
            · have hv := hv.1 hc
              refine lv_iconst (v := 0) hx hb d_X1_reasonToHold_76 (by decide) ?_
              exact W.iret (v := 0) hx hb hr (fun t ht hW => ⟨⟨0, (I359, L360), rfl, hv, mm_mv ht hP⟩, hS.F ht⟩) hS.2.2 d_X1_reasonToHold_77
            · have hv := hv.2 hc
              refine lv_bipush (v := 6) hx hb d_X1_reasonToHold_73 (by decide) ?_
              exact W.iret (v := 6) hx hb hr (fun t ht hW => ⟨⟨6, (I359, L360), rfl, hv, mm_mv ht hP⟩, hS.F ht⟩) hS.2.2 d_X1_reasonToHold_75
        · have hv := hv.2 (fun q => hc ((lg_cmp_eq _ _).mpr q))
          refine lv_iconst (v := 5) hx hb d_X1_reasonToHold_47 (by decide) ?_
          exact W.iret (v := 5) hx hb hr (fun t ht hW => ⟨⟨5, (I353, L354), rfl, hv, mm_mv ht hP⟩, hS.F ht⟩) hS.2.2 d_X1_reasonToHold_48
      · have hv := hv.2 hc
        refine lv_lload hx hb d_X1_reasonToHold_32 (lv_at hl 3 rfl) ?_
        refine va_calli (va_runS (As := [.long x5]) (rest := []) ⟨hx, hb, hml, hown, hg⟩ (m_X1_reasonOf l G x5 I353 L354 _  hv) (va_cwS 1 hg (mm_gS k_150 k_151 k_102 kc_X1_reasonOf) rfl rfl rfl (by decide +kernel) ⟨Nat.le_of_ble_eq_true rfl, Nat.le_of_ble_eq_true rfl⟩) ⟨mm_blind, fun U hU hW => mm_call hP hK hD hC hU hS hW⟩ rfl rfl hl.1 rfl (lv_room (Nat.le_of_ble_eq_true rfl)) d_X1_reasonToHold_34 ⟨Nat.zero_le _, Nat.zero_le _⟩) hS (fun q _ h => h) (fun q h => h) (fun r364 u t H locs ht hvm hv hP hz1 hk1 hS => ?_)
        obtain ⟨I362, L363⟩ := u
        dsimp only at hv hP
        rw [ht] at hP
        have hD : mm_DW G I362 L363 := mm_D_any hD
        exact W.iret (v := r364) hx hb hr (fun t ht hW => ⟨⟨r364, (I362, L363), rfl, hv, mm_mv ht hP⟩, hS.F ht⟩) hS.2.2 d_X1_reasonToHold_37
    · have hv := hv.2 hc
      refine lv_lload_n hx hb d_X1_reasonToHold_19 rfl (lv_at hl 2 rfl) ?_
      refine va_calli (va_runS (As := [.long x3]) (rest := []) ⟨hx, hb, hml, hown, hg⟩ (m_X1_reasonOf l G x3 I350 L351 _  hv) (va_cwS 1 hg (mm_gS k_150 k_151 k_102 kc_X1_reasonOf) rfl rfl rfl (by decide +kernel) ⟨Nat.le_of_ble_eq_true rfl, Nat.le_of_ble_eq_true rfl⟩) ⟨mm_blind, fun U hU hW => mm_call hP hK hD hC hU hS hW⟩ rfl rfl hl.1 rfl (lv_room (Nat.le_of_ble_eq_true rfl)) d_X1_reasonToHold_20 ⟨Nat.zero_le _, Nat.zero_le _⟩) hS (fun q _ h => h) (fun q h => h) (fun r367 u t H locs ht hvm hv hP hz1 hk1 hS => ?_)
      obtain ⟨I365, L366⟩ := u
      dsimp only at hv hP
      rw [ht] at hP
      have hD : mm_DW G I365 L366 := mm_D_any hD
      exact W.iret (v := r367) hx hb hr (fun t ht hW => ⟨⟨r367, (I365, L366), rfl, hv, mm_mv ht hP⟩, hS.F ht⟩) hS.2.2 d_X1_reasonToHold_23
  · have hv := hv.2 hc
    refine lv_lload_n hx hb d_X1_reasonToHold_7 rfl (lv_at hl 1 rfl) ?_
    refine va_calli (va_runS (As := [.long x1]) (rest := []) ⟨hx, hb, hml, hown, hg⟩ (m_X1_reasonOf l G x1 I347 L348 _  hv) (va_cwS 1 hg (mm_gS k_150 k_151 k_102 kc_X1_reasonOf) rfl rfl rfl (by decide +kernel) ⟨Nat.le_of_ble_eq_true rfl, Nat.le_of_ble_eq_true rfl⟩) ⟨mm_blind, fun U hU hW => mm_call hP hK hD hC hU hS hW⟩ rfl rfl hl.1 rfl (lv_room (Nat.le_of_ble_eq_true rfl)) d_X1_reasonToHold_8 ⟨Nat.zero_le _, Nat.zero_le _⟩) hS (fun q _ h => h) (fun q h => h) (fun r370 u t H locs ht hvm hv hP hz1 hk1 hS => ?_)
    obtain ⟨I368, L369⟩ := u
    dsimp only at hv hP
    rw [ht] at hP
    have hD : mm_DW G I368 L369 := mm_D_any hD
    exact W.iret (v := r370) hx hb hr (fun t ht hW => ⟨⟨r370, (I368, L369), rfl, hv, mm_mv ht hP⟩, hS.F ht⟩) hS.2.2 d_X1_reasonToHold_11
abbrev vc_X1_reasonToHold (p0 : Nat) (x1 : Int64) (x3 : Int64) (x5 : Int64) (I : mm_I) (L : mm_L) (Q : Int32 → mm_I → mm_L → Prop) : Prop := vc_X1_reasonToHold_0 p0 x1 x3 x5 I L Q
set_option maxHeartbeats 4000000 in
set_option maxRecDepth 100000 in
theorem m_X1_reasonToHold (l : Launch) (G : mm_G) (p0 : Nat) (x1 : Int64) (x3 : Int64) (x5 : Int64) (I : mm_I) (L : mm_L) (Q : Int32 → mm_I → mm_L → Prop) (hp0 : p0 < 6) (hv : vc_X1_reasonToHold p0 x1 x3 x5 I L Q) : Met l y_X1_reasonToHold w_X1_reasonToHold rm_X1_reasonToHold (mm_pre G [.ref (G.2.2.1 (24 + p0)), .long x1, .long x3, .long x5] I L) (mm_qi G Q) 0 0 G.2.2.2.1 := by
  refine Met.ofW (cc := c_X1_reasonToHold) (maxL := 7) (ret := (some .int)) (by decide) rfl ?_
  intro p e s m args below meth c s₁ B hml hw
  obtain ⟨rfl, hP, hK, hD, hC⟩ := hw
  have hts := atoms_spec (ws := w_X1_reasonToHold) B.pre
  have hown : s.vm.findClass RX1 = some m.cls := findClass_of_methodNamed B.named
  have hl := lv_entry ([.ref (G.2.2.1 (24 + p0)), .long x1, .long x3, .long x5]) (n := 7) (Nat.le_of_ble_eq_true rfl)
  rw [lg_entry_eq]
  generalize (lg_sl ([.ref (G.2.2.1 (24 + p0)), .long x1, .long x3, .long x5]) ++ List.replicate (7 - (lg_sl ([.ref (G.2.2.1 (24 + p0)), .long x1, .long x3, .long x5])).length) Slot.unset).toArray = ls at hl ⊢
  have hl : lv_has ls 7 [(0, .ref (G.2.2.1 (24 + p0))), (1, .long x1), (3, .long x3), (5, .long x5)] := hl
  exact w_X1_reasonToHold_0 ⟨B.exec, B.bytes, B.returns, B.notSynchronized, hml, hown, fun w h => hts w (List.mem_cons_of_mem _ h), hK, hC⟩ p0 x1 x3 x5 I L Q hp0 hv hP hD va_S.rf hl
abbrev rm_X1_grow : Room := { frames := 0, cells := 0, slots := 0, locals := 0 }
def vc_X1_grow_0 (p0 : Nat) (x1 : Int64) (x3 : Int64) (I : mm_I) (L : mm_L) (Q : mm_I → mm_L → Prop) : Prop :=
  Q I (mm_uL (mm_uL L (24 + p0) 1 ((L (24 + p0) 1) + x1)) (24 + p0) 2 (((mm_uL L (24 + p0) 1 ((L (24 + p0) 1) + x1)) (24 + p0) 2) + x3))
set_option maxHeartbeats 4000000 in
set_option maxRecDepth 100000 in
theorem w_X1_grow_0 {p : Program} {l : Launch} {e : Env} {s : State} {m : MethodId} {args : Array Value} {below : List Frame} {meth : Method} {c : Code} {G : mm_G} (hcx : mm_cx c_X1_grow none 5 RX1 G p s m args meth c) (p0 : Nat) (x1 : Int64) (x3 : Int64) (I : mm_I) (L : mm_L) (Q : mm_I → mm_L → Prop) (hp0 : p0 < 6) (hv : vc_X1_grow_0 p0 x1 x3 I L Q) {H : Heap} {locs : List Loc} (hP : mm_PW G I L H) (hD : mm_DW G I L) (hS : va_S G.2.2.2.1 s.heap H locs) {ls : Array Slot} (hl : lv_has ls 5 [(0, .ref (G.2.2.1 (24 + p0))), (1, .long x1), (3, .long x3)]) : W p l e (headSpec w_X1_grow rm_X1_grow).room s m args below meth c H locs 0 0 (MQ below (mm_qv G Q) args s 0 0 G.2.2.2.1) (F0 m 0 ls []) := by
  obtain ⟨hx, hb, hr, hlocks, hml, hown, hg, hK, hC⟩ := id hcx
  unfold vc_X1_grow_0 at hv
  refine lv_aload_n hx hb d_X1_grow_0 rfl (lv_at hl 0 rfl) ?_
  refine lv_dup hx hb d_X1_grow_1 rfl ?_
  refine mm_gl (D := G.1) (C := RX1) (T := TX1) (N0 := 4) hx hb hg in_X1 hown hK hP (t := (24 + p0)) (ly_N_PS hp0) (ly_PS hp0) rfl 1 (by decide) (hg _ k_59) (fun _ h9 => h9) rfl d_X1_grow_2 ?_
  refine lv_lload_n hx hb d_X1_grow_5 rfl (lv_at hl 1 rfl) ?_
  refine lv_ladd hx hb d_X1_grow_6 ?_
  refine mm_pl (D := G.1) (C := RX1) (T := TX1) (N0 := 4) hx hb hg in_X1 tyX1 tyX1_ok nmX1 hown hK hP hD hS (t := (24 + p0)) (ly_N_PS hp0) (ly_PS hp0) rfl 1 (by decide) (hg _ k_59) (fun _ h9 => h9) rfl (by decide +kernel) rfl d_X1_grow_7 (fun H locs hP hD hS => ?_)
  refine lv_aload_n hx hb d_X1_grow_10 rfl (lv_at hl 0 rfl) ?_
  refine lv_dup hx hb d_X1_grow_11 rfl ?_
  refine mm_gl (D := G.1) (C := RX1) (T := TX1) (N0 := 4) hx hb hg in_X1 hown hK hP (t := (24 + p0)) (ly_N_PS hp0) (ly_PS hp0) rfl 2 (by decide) (hg _ k_60) (fun _ h9 => h9) rfl d_X1_grow_12 ?_
  refine lv_lload_n hx hb d_X1_grow_15 rfl (lv_at hl 2 rfl) ?_
  refine lv_ladd hx hb d_X1_grow_16 ?_
  refine mm_pl (D := G.1) (C := RX1) (T := TX1) (N0 := 4) hx hb hg in_X1 tyX1 tyX1_ok nmX1 hown hK hP hD hS (t := (24 + p0)) (ly_N_PS hp0) (ly_PS hp0) rfl 2 (by decide) (hg _ k_60) (fun _ h9 => h9) rfl (by decide +kernel) rfl d_X1_grow_17 (fun H locs hP hD hS => ?_)
  exact W.vret hx hb hr (fun t ht hW => ⟨⟨(I, (mm_uL (mm_uL L (24 + p0) 1 ((L (24 + p0) 1) + x1)) (24 + p0) 2 (((mm_uL L (24 + p0) 1 ((L (24 + p0) 1) + x1)) (24 + p0) 2) + x3))), rfl, hv, mm_mv ht hP⟩, hS.F ht⟩) hS.2.2 d_X1_grow_20
abbrev vc_X1_grow (p0 : Nat) (x1 : Int64) (x3 : Int64) (I : mm_I) (L : mm_L) (Q : mm_I → mm_L → Prop) : Prop := vc_X1_grow_0 p0 x1 x3 I L Q
set_option maxHeartbeats 4000000 in
set_option maxRecDepth 100000 in
theorem m_X1_grow (l : Launch) (G : mm_G) (p0 : Nat) (x1 : Int64) (x3 : Int64) (I : mm_I) (L : mm_L) (Q : mm_I → mm_L → Prop) (hp0 : p0 < 6) (hv : vc_X1_grow p0 x1 x3 I L Q) : Met l y_X1_grow w_X1_grow rm_X1_grow (mm_pre G [.ref (G.2.2.1 (24 + p0)), .long x1, .long x3] I L) (mm_qv G Q) 0 0 G.2.2.2.1 := by
  refine Met.ofW (cc := c_X1_grow) (maxL := 5) (ret := none) (by decide) rfl ?_
  intro p e s m args below meth c s₁ B hml hw
  obtain ⟨rfl, hP, hK, hD, hC⟩ := hw
  have hts := atoms_spec (ws := w_X1_grow) B.pre
  have hown : s.vm.findClass RX1 = some m.cls := findClass_of_methodNamed B.named
  have hl := lv_entry ([.ref (G.2.2.1 (24 + p0)), .long x1, .long x3]) (n := 5) (Nat.le_of_ble_eq_true rfl)
  rw [lg_entry_eq]
  generalize (lg_sl ([.ref (G.2.2.1 (24 + p0)), .long x1, .long x3]) ++ List.replicate (5 - (lg_sl ([.ref (G.2.2.1 (24 + p0)), .long x1, .long x3])).length) Slot.unset).toArray = ls at hl ⊢
  have hl : lv_has ls 5 [(0, .ref (G.2.2.1 (24 + p0))), (1, .long x1), (3, .long x3)] := hl
  exact w_X1_grow_0 ⟨B.exec, B.bytes, B.returns, B.notSynchronized, hml, hown, fun w h => hts w (List.mem_cons_of_mem _ h), hK, hC⟩ p0 x1 x3 I L Q hp0 hv hP hD va_S.rf hl
abbrev rm_X6_payOne : Room := { frames := 5, cells := 0, slots := 0, locals := 114 }
def vc_X6_payOne_0 (x1 : Int32) (x2 : Int32) (I : mm_I) (L : mm_L) (Q : mm_I → mm_L → Prop) : Prop :=
  vp_in x2 6 ∧ vc_X1_paidIsInt (x2.toNatClampNeg) I L (fun r374 I372 L373 => (¬ r374 = 0 → vc_X2_workOutFor (x2.toNatClampNeg) I372 L373 (fun I375 L376 => vc_X2_workedDefinition 0 I375 L376 (fun r380 I378 L379 => vc_X2_workedDefinition 1 I378 L379 (fun r383 I381 L382 => vc_X2_workedDefinition 2 I381 L382 (fun r386 I384 L385 => vc_X1_reasonToHold (x2.toNatClampNeg) r380 r383 r386 I384 L385 (fun r389 I387 L388 => (r389 = 0 → vc_X3_writeSlip x1 x2 r380 r383 r386 I387 L388 (fun I390 L391 => vc_X1_grow (x2.toNatClampNeg) r380 r383 I390 L391 (fun I393 L394 => Q I393 L394))) ∧ (¬ r389 = 0 → vc_X3_hold x1 x2 r389 I387 L388 (fun I396 L397 => Q I396 L397)))))))) ∧ (r374 = 0 → vc_X3_hold x1 x2 6 I372 L373 (fun I399 L400 => Q I399 L400)))
set_option maxHeartbeats 4000000 in
set_option maxRecDepth 100000 in
theorem w_X6_payOne_0 {p : Program} {l : Launch} {e : Env} {s : State} {m : MethodId} {args : Array Value} {below : List Frame} {meth : Method} {c : Code} {G : mm_G} (hcx : mm_cx c_X6_payOne none 11 RX6 G p s m args meth c) (x1 : Int32) (x2 : Int32) (I : mm_I) (L : mm_L) (Q : mm_I → mm_L → Prop)  (hv : vc_X6_payOne_0 x1 x2 I L Q) {H : Heap} {locs : List Loc} (hP : mm_PW G I L H) (hD : mm_DW G I L) (hS : va_S G.2.2.2.1 s.heap H locs) {ls : Array Slot} (hl : lv_has ls 11 [(0, .ref (G.2.2.1 0)), (1, .int x1), (2, .int x2)]) : W p l e (headSpec w_X6_payOne rm_X6_payOne).room s m args below meth c H locs 0 0 (MQ below (mm_qv G Q) args s 0 0 G.2.2.2.1) (F0 m 0 ls []) := by
  obtain ⟨hx, hb, hr, hlocks, hml, hown, hg, hK, hC⟩ := id hcx
  unfold vc_X6_payOne_0 at hv
  refine lv_aload_n hx hb d_X6_payOne_0 rfl (lv_at hl 0 rfl) ?_
  refine mm_gr (D := G.1) (C := RX6) (T := TX6) (N0 := 3) (r := 13) hx hb hg in_X6 hown hK hP (t := 0) (by decide) rfl rfl 1 (by decide) (hg _ k_54) (fun _ h9 => h9) rfl d_X6_payOne_1 ?_
  refine lv_iload_n hx hb d_X6_payOne_4 rfl (lv_at hl 2 rfl) ?_
  obtain ⟨h371, hv⟩ := hv
  refine mm_aald (D := G.1) hx hb hK hP (t := 13) (by decide) rfl rfl h371 (r := (24 + x2.toNatClampNeg)) (rfl) d_X6_payOne_5 ?_
  refine lv_astore_n (lv' := [(3, .ref (G.2.2.1 (24 + x2.toNatClampNeg))), (0, .ref (G.2.2.1 0)), (1, .int x1), (2, .int x2)]) hx hb d_X6_payOne_6 rfl hl (by decide) rfl (fun ls hl => ?_)
  refine lv_aload_n hx hb d_X6_payOne_7 rfl (lv_at hl 0 rfl) ?_
  refine va_calli (va_runV (As := []) (rest := []) ⟨hx, hb, hml, hown, hg⟩ (m_X1_paidIsInt l G (x2.toNatClampNeg) I L _ (mm_lt h371) hv) (cwV 0 hg (mm_gV k_133 k_134 k_135 k_102 kc_X1_paidIsInt) rfl rfl rfl (by decide +kernel) ⟨Nat.le_of_ble_eq_true rfl, Nat.le_of_ble_eq_true rfl⟩) ⟨mm_blind, mm_recv hK hP (t := (24 + x2.toNatClampNeg)) (ly_N_PS (mm_lt h371)) (ly_PS (mm_lt h371)) rfl, fun U hU hW => mm_call hP hK hD hC hU hS hW⟩ rfl rfl hl.1 rfl (lv_room (Nat.le_of_ble_eq_true rfl)) d_X6_payOne_8 ⟨Nat.zero_le _, Nat.zero_le _⟩) hS (fun q _ h => h) (fun q h => h) (fun r374 u t H locs ht hvm hv hP hz1 hk1 hS => ?_)
  obtain ⟨I372, L373⟩ := u
  dsimp only at hv hP
  rw [ht] at hP
  have hD : mm_DW G I372 L373 := mm_D_any hD
  refine lv_if_ne (tgt := 26) hx hb d_X6_payOne_11 (by decide) (fun hc => ?_) (fun hc => ?_)
  · have hv := hv.1 hc
    refine lv_aload_n hx hb d_X6_payOne_26 rfl (lv_at hl 1 rfl) ?_
    refine mm_gr (D := G.1) (C := RX6) (T := TX6) (N0 := 3) (r := 1) hx hb hg in_X6 hown hK hP (t := 0) (by decide) rfl rfl 0 (by decide) (hg _ k_34) (fun _ h9 => h9) rfl d_X6_payOne_27 ?_
    refine lv_aload_n hx hb d_X6_payOne_30 rfl (lv_at hl 0 rfl) ?_
    refine va_callv (va_runV (As := [.ref (G.2.2.1 (24 + x2.toNatClampNeg))]) (rest := []) ⟨hx, hb, hml, hown, hg⟩ (m_X2_workOutFor l G (x2.toNatClampNeg) I372 L373 _ (mm_lt h371) hv) (cwV 1 hg (mm_gV k_130 k_131 k_132 k_70 kc_X2_workOutFor) rfl rfl rfl (by decide +kernel) ⟨Nat.le_of_ble_eq_true rfl, Nat.le_of_ble_eq_true rfl⟩) ⟨mm_blind, mm_recv hK hP (t := 1) (by decide) rfl rfl, fun U hU hW => mm_call hP hK hD hC hU hS hW⟩ rfl rfl hl.1 rfl (lv_room (Nat.le_of_ble_eq_true rfl)) d_X6_payOne_31 ⟨Nat.zero_le _, Nat.zero_le _⟩) hS (fun q _ h => h) (fun q h => h) (fun u t H locs ht hvm hv hP hz1 hk1 hS => ?_)
    obtain ⟨I375, L376⟩ := u
    dsimp only at hv hP
    rw [ht] at hP
    have hD : mm_DW G I375 L376 := mm_D_any hD
    refine lv_aload_n hx hb d_X6_payOne_34 rfl (lv_at hl 1 rfl) ?_
    refine mm_gr (D := G.1) (C := RX6) (T := TX6) (N0 := 3) (r := 1) hx hb hg in_X6 hown hK hP (t := 0) (by decide) rfl rfl 0 (by decide) (hg _ k_34) (fun _ h9 => h9) rfl d_X6_payOne_35 ?_
    refine lv_iconst (v := 0) hx hb d_X6_payOne_38 (by decide) ?_
    refine va_calll (va_runV (As := [.int 0]) (rest := []) ⟨hx, hb, hml, hown, hg⟩ (m_X2_workedDefinition l G 0 I375 L376 _  hv) (cwV 1 hg (mm_gV k_161 k_97 k_98 k_70 kc_X2_workedDefinition) rfl rfl rfl (by decide +kernel) ⟨Nat.le_of_ble_eq_true rfl, Nat.le_of_ble_eq_true rfl⟩) ⟨mm_blind, mm_recv hK hP (t := 1) (by decide) rfl rfl, fun U hU hW => mm_call hP hK hD hC hU hS hW⟩ rfl rfl hl.1 rfl (lv_room (Nat.le_of_ble_eq_true rfl)) d_X6_payOne_39 ⟨Nat.zero_le _, Nat.zero_le _⟩) hS (fun q _ h => h) (fun q h => h) (fun r380 u t H locs ht hvm hv hP hz1 hk1 hS => ?_)
    obtain ⟨I378, L379⟩ := u
    dsimp only at hv hP
    rw [ht] at hP
    have hD : mm_DW G I378 L379 := mm_D_any hD
    refine lv_lstore (lv' := [(4, .long r380), (3, .ref (G.2.2.1 (24 + x2.toNatClampNeg))), (0, .ref (G.2.2.1 0)), (1, .int x1), (2, .int x2)]) hx hb d_X6_payOne_42 hl (by decide) rfl (fun ls hl => ?_)
    refine lv_aload_n hx hb d_X6_payOne_44 rfl (lv_at hl 2 rfl) ?_
    refine mm_gr (D := G.1) (C := RX6) (T := TX6) (N0 := 3) (r := 1) hx hb hg in_X6 hown hK hP (t := 0) (by decide) rfl rfl 0 (by decide) (hg _ k_34) (fun _ h9 => h9) rfl d_X6_payOne_45 ?_
    refine lv_iconst (v := 1) hx hb d_X6_payOne_48 (by decide) ?_
    refine va_calll (va_runV (As := [.int 1]) (rest := []) ⟨hx, hb, hml, hown, hg⟩ (m_X2_workedDefinition l G 1 I378 L379 _  hv) (cwV 1 hg (mm_gV k_161 k_97 k_98 k_70 kc_X2_workedDefinition) rfl rfl rfl (by decide +kernel) ⟨Nat.le_of_ble_eq_true rfl, Nat.le_of_ble_eq_true rfl⟩) ⟨mm_blind, mm_recv hK hP (t := 1) (by decide) rfl rfl, fun U hU hW => mm_call hP hK hD hC hU hS hW⟩ rfl rfl hl.1 rfl (lv_room (Nat.le_of_ble_eq_true rfl)) d_X6_payOne_49 ⟨Nat.zero_le _, Nat.zero_le _⟩) hS (fun q _ h => h) (fun q h => h) (fun r383 u t H locs ht hvm hv hP hz1 hk1 hS => ?_)
    obtain ⟨I381, L382⟩ := u
    dsimp only at hv hP
    rw [ht] at hP
    have hD : mm_DW G I381 L382 := mm_D_any hD
    refine lv_lstore (lv' := [(6, .long r383), (4, .long r380), (3, .ref (G.2.2.1 (24 + x2.toNatClampNeg))), (0, .ref (G.2.2.1 0)), (1, .int x1), (2, .int x2)]) hx hb d_X6_payOne_52 hl (by decide) rfl (fun ls hl => ?_)
    refine lv_aload_n hx hb d_X6_payOne_54 rfl (lv_at hl 3 rfl) ?_
    refine mm_gr (D := G.1) (C := RX6) (T := TX6) (N0 := 3) (r := 1) hx hb hg in_X6 hown hK hP (t := 0) (by decide) rfl rfl 0 (by decide) (hg _ k_34) (fun _ h9 => h9) rfl d_X6_payOne_55 ?_
    refine lv_iconst (v := 2) hx hb d_X6_payOne_58 (by decide) ?_
    refine va_calll (va_runV (As := [.int 2]) (rest := []) ⟨hx, hb, hml, hown, hg⟩ (m_X2_workedDefinition l G 2 I381 L382 _  hv) (cwV 1 hg (mm_gV k_161 k_97 k_98 k_70 kc_X2_workedDefinition) rfl rfl rfl (by decide +kernel) ⟨Nat.le_of_ble_eq_true rfl, Nat.le_of_ble_eq_true rfl⟩) ⟨mm_blind, mm_recv hK hP (t := 1) (by decide) rfl rfl, fun U hU hW => mm_call hP hK hD hC hU hS hW⟩ rfl rfl hl.1 rfl (lv_room (Nat.le_of_ble_eq_true rfl)) d_X6_payOne_59 ⟨Nat.zero_le _, Nat.zero_le _⟩) hS (fun q _ h => h) (fun q h => h) (fun r386 u t H locs ht hvm hv hP hz1 hk1 hS => ?_)
    obtain ⟨I384, L385⟩ := u
    dsimp only at hv hP
    rw [ht] at hP
    have hD : mm_DW G I384 L385 := mm_D_any hD
    refine lv_lstore (lv' := [(8, .long r386), (6, .long r383), (4, .long r380), (3, .ref (G.2.2.1 (24 + x2.toNatClampNeg))), (0, .ref (G.2.2.1 0)), (1, .int x1), (2, .int x2)]) hx hb d_X6_payOne_62 hl (by decide) rfl (fun ls hl => ?_)
    refine lv_aload_n hx hb d_X6_payOne_64 rfl (lv_at hl 3 rfl) ?_
    refine lv_lload hx hb d_X6_payOne_65 (lv_at hl 2 rfl) ?_
    refine lv_lload hx hb d_X6_payOne_67 (lv_at hl 1 rfl) ?_
    refine lv_lload hx hb d_X6_payOne_69 (lv_at hl 0 rfl) ?_
    refine va_calli (va_runV (As := [.long r380, .long r383, .long r386]) (rest := []) ⟨hx, hb, hml, hown, hg⟩ (m_X1_reasonToHold l G (x2.toNatClampNeg) r380 r383 r386 I384 L385 _ (mm_lt h371) hv) (cwV 3 hg (mm_gV k_158 k_159 k_160 k_102 kc_X1_reasonToHold) rfl rfl rfl (by decide +kernel) ⟨Nat.le_of_ble_eq_true rfl, Nat.le_of_ble_eq_true rfl⟩) ⟨mm_blind, mm_recv hK hP (t := (24 + x2.toNatClampNeg)) (ly_N_PS (mm_lt h371)) (ly_PS (mm_lt h371)) rfl, fun U hU hW => mm_call hP hK hD hC hU hS hW⟩ rfl rfl hl.1 rfl (lv_room (Nat.le_of_ble_eq_true rfl)) d_X6_payOne_71 ⟨Nat.zero_le _, Nat.zero_le _⟩) hS (fun q _ h => h) (fun q h => h) (fun r389 u t H locs ht hvm hv hP hz1 hk1 hS => ?_)
    obtain ⟨I387, L388⟩ := u
    dsimp only at hv hP
    rw [ht] at hP
    have hD : mm_DW G I387 L388 := mm_D_any hD
    refine lv_istore (lv' := [(10, .int r389), (8, .long r386), (6, .long r383), (4, .long r380), (3, .ref (G.2.2.1 (24 + x2.toNatClampNeg))), (0, .ref (G.2.2.1 0)), (1, .int x1), (2, .int x2)]) hx hb d_X6_payOne_74 hl (by decide) rfl (fun ls hl => ?_)
    refine lv_iload hx hb d_X6_payOne_76 (lv_at hl 0 rfl) ?_
    refine lv_if_eq (tgt := 93) hx hb d_X6_payOne_78 (by decide) (fun hc => ?_) (fun hc => ?_)
    · have hv := hv.1 hc
      refine lv_aload_n hx hb d_X6_payOne_93 rfl (lv_at hl 5 rfl) ?_
      refine mm_gr (D := G.1) (C := RX6) (T := TX6) (N0 := 3) (r := 14) hx hb hg in_X6 hown hK hP (t := 0) (by decide) rfl rfl 2 (by decide) (hg _ k_152) (fun _ h9 => h9) rfl d_X6_payOne_94 ?_
      refine lv_iload_n hx hb d_X6_payOne_97 rfl (lv_at hl 6 rfl) ?_
      refine lv_iload_n hx hb d_X6_payOne_98 rfl (lv_at hl 7 rfl) ?_
      refine lv_lload hx hb d_X6_payOne_99 (lv_at hl 3 rfl) ?_
      refine lv_lload hx hb d_X6_payOne_101 (lv_at hl 2 rfl) ?_
      refine lv_lload hx hb d_X6_payOne_103 (lv_at hl 1 rfl) ?_
      refine va_callv (va_runV (As := [.int x1, .int x2, .long r380, .long r383, .long r386]) (rest := []) ⟨hx, hb, hml, hown, hg⟩ (m_X3_writeSlip l G x1 x2 r380 r383 r386 I387 L388 _  hv) (cwV 5 hg (mm_gV k_156 k_146 k_147 k_139 kc_X3_writeSlip) rfl rfl rfl (by decide +kernel) ⟨Nat.le_of_ble_eq_true rfl, Nat.le_of_ble_eq_true rfl⟩) ⟨mm_blind, mm_recv hK hP (t := 14) (by decide) rfl rfl, fun U hU hW => mm_call hP hK hD hC hU hS hW⟩ rfl rfl hl.1 rfl (lv_room (Nat.le_of_ble_eq_true rfl)) d_X6_payOne_105 ⟨Nat.zero_le _, Nat.zero_le _⟩) hS (fun q _ h => h) (fun q h => h) (fun u t H locs ht hvm hv hP hz1 hk1 hS => ?_)
      obtain ⟨I390, L391⟩ := u
      dsimp only at hv hP
      rw [ht] at hP
      have hD : mm_DW G I390 L391 := mm_D_any hD
      refine lv_aload_n hx hb d_X6_payOne_108 rfl (lv_at hl 4 rfl) ?_
      refine lv_lload hx hb d_X6_payOne_109 (lv_at hl 3 rfl) ?_
      refine lv_lload hx hb d_X6_payOne_111 (lv_at hl 2 rfl) ?_
      refine va_callv (va_runV (As := [.long r380, .long r383]) (rest := []) ⟨hx, hb, hml, hown, hg⟩ (m_X1_grow l G (x2.toNatClampNeg) r380 r383 I390 L391 _ (mm_lt h371) hv) (cwV 2 hg (mm_gV k_153 k_154 k_155 k_102 kc_X1_grow) rfl rfl rfl (by decide +kernel) ⟨Nat.le_of_ble_eq_true rfl, Nat.le_of_ble_eq_true rfl⟩) ⟨mm_blind, mm_recv hK hP (t := (24 + x2.toNatClampNeg)) (ly_N_PS (mm_lt h371)) (ly_PS (mm_lt h371)) rfl, fun U hU hW => mm_call hP hK hD hC hU hS hW⟩ rfl rfl hl.1 rfl (lv_room (Nat.le_of_ble_eq_true rfl)) d_X6_payOne_113 ⟨Nat.zero_le _, Nat.zero_le _⟩) hS (fun q _ h => h) (fun q h => h) (fun u t H locs ht hvm hv hP hz1 hk1 hS => ?_)
      obtain ⟨I393, L394⟩ := u
      dsimp only at hv hP
      rw [ht] at hP
      have hD : mm_DW G I393 L394 := mm_D_any hD
      exact W.vret hx hb hr (fun t ht hW => ⟨⟨(I393, L394), rfl, hv, mm_mv ht hP⟩, hS.F ht⟩) hS.2.2 d_X6_payOne_116
    · have hv := hv.2 hc
      refine lv_aload_n hx hb d_X6_payOne_81 rfl (lv_at hl 5 rfl) ?_
      refine mm_gr (D := G.1) (C := RX6) (T := TX6) (N0 := 3) (r := 14) hx hb hg in_X6 hown hK hP (t := 0) (by decide) rfl rfl 2 (by decide) (hg _ k_152) (fun _ h9 => h9) rfl d_X6_payOne_82 ?_
      refine lv_iload_n hx hb d_X6_payOne_85 rfl (lv_at hl 6 rfl) ?_
      refine lv_iload_n hx hb d_X6_payOne_86 rfl (lv_at hl 7 rfl) ?_
      refine lv_iload hx hb d_X6_payOne_87 (lv_at hl 0 rfl) ?_
      refine va_callv (va_runV (As := [.int x1, .int x2, .int r389]) (rest := []) ⟨hx, hb, hml, hown, hg⟩ (m_X3_hold l G x1 x2 r389 I387 L388 _  hv) (cwV 3 hg (mm_gV k_157 k_143 k_144 k_139 kc_X3_hold) rfl rfl rfl (by decide +kernel) ⟨Nat.le_of_ble_eq_true rfl, Nat.le_of_ble_eq_true rfl⟩) ⟨mm_blind, mm_recv hK hP (t := 14) (by decide) rfl rfl, fun U hU hW => mm_call hP hK hD hC hU hS hW⟩ rfl rfl hl.1 rfl (lv_room (Nat.le_of_ble_eq_true rfl)) d_X6_payOne_89 ⟨Nat.zero_le _, Nat.zero_le _⟩) hS (fun q _ h => h) (fun q h => h) (fun u t H locs ht hvm hv hP hz1 hk1 hS => ?_)
      obtain ⟨I396, L397⟩ := u
      dsimp only at hv hP
      rw [ht] at hP
      have hD : mm_DW G I396 L397 := mm_D_any hD
      exact W.vret hx hb hr (fun t ht hW => ⟨⟨(I396, L397), rfl, hv, mm_mv ht hP⟩, hS.F ht⟩) hS.2.2 d_X6_payOne_92
  · have hv := hv.2 hc
    refine lv_aload_n hx hb d_X6_payOne_14 rfl (lv_at hl 1 rfl) ?_
    refine mm_gr (D := G.1) (C := RX6) (T := TX6) (N0 := 3) (r := 14) hx hb hg in_X6 hown hK hP (t := 0) (by decide) rfl rfl 2 (by decide) (hg _ k_152) (fun _ h9 => h9) rfl d_X6_payOne_15 ?_
    refine lv_iload_n hx hb d_X6_payOne_18 rfl (lv_at hl 2 rfl) ?_
    refine lv_iload_n hx hb d_X6_payOne_19 rfl (lv_at hl 3 rfl) ?_
    refine lv_bipush (v := 6) hx hb d_X6_payOne_20 (by decide) ?_
    refine va_callv (va_runV (As := [.int x1, .int x2, .int 6]) (rest := []) ⟨hx, hb, hml, hown, hg⟩ (m_X3_hold l G x1 x2 6 I372 L373 _  hv) (cwV 3 hg (mm_gV k_157 k_143 k_144 k_139 kc_X3_hold) rfl rfl rfl (by decide +kernel) ⟨Nat.le_of_ble_eq_true rfl, Nat.le_of_ble_eq_true rfl⟩) ⟨mm_blind, mm_recv hK hP (t := 14) (by decide) rfl rfl, fun U hU hW => mm_call hP hK hD hC hU hS hW⟩ rfl rfl hl.1 rfl (lv_room (Nat.le_of_ble_eq_true rfl)) d_X6_payOne_22 ⟨Nat.zero_le _, Nat.zero_le _⟩) hS (fun q _ h => h) (fun q h => h) (fun u t H locs ht hvm hv hP hz1 hk1 hS => ?_)
    obtain ⟨I399, L400⟩ := u
    dsimp only at hv hP
    rw [ht] at hP
    have hD : mm_DW G I399 L400 := mm_D_any hD
    exact W.vret hx hb hr (fun t ht hW => ⟨⟨(I399, L400), rfl, hv, mm_mv ht hP⟩, hS.F ht⟩) hS.2.2 d_X6_payOne_25
abbrev vc_X6_payOne (x1 : Int32) (x2 : Int32) (I : mm_I) (L : mm_L) (Q : mm_I → mm_L → Prop) : Prop := vc_X6_payOne_0 x1 x2 I L Q
set_option maxHeartbeats 4000000 in
set_option maxRecDepth 100000 in
theorem m_X6_payOne (l : Launch) (G : mm_G) (x1 : Int32) (x2 : Int32) (I : mm_I) (L : mm_L) (Q : mm_I → mm_L → Prop)  (hv : vc_X6_payOne x1 x2 I L Q) : Met l y_X6_payOne w_X6_payOne rm_X6_payOne (mm_pre G [.ref (G.2.2.1 0), .int x1, .int x2] I L) (mm_qv G Q) 0 0 G.2.2.2.1 := by
  refine Met.ofW (cc := c_X6_payOne) (maxL := 11) (ret := none) (by decide) rfl ?_
  intro p e s m args below meth c s₁ B hml hw
  obtain ⟨rfl, hP, hK, hD, hC⟩ := hw
  have hts := atoms_spec (ws := w_X6_payOne) B.pre
  have hown : s.vm.findClass RX6 = some m.cls := findClass_of_methodNamed B.named
  have hl := lv_entry ([.ref (G.2.2.1 0), .int x1, .int x2]) (n := 11) (Nat.le_of_ble_eq_true rfl)
  rw [lg_entry_eq]
  generalize (lg_sl ([.ref (G.2.2.1 0), .int x1, .int x2]) ++ List.replicate (11 - (lg_sl ([.ref (G.2.2.1 0), .int x1, .int x2])).length) Slot.unset).toArray = ls at hl ⊢
  have hl : lv_has ls 11 [(0, .ref (G.2.2.1 0)), (1, .int x1), (2, .int x2)] := hl
  exact w_X6_payOne_0 ⟨B.exec, B.bytes, B.returns, B.notSynchronized, hml, hown, fun w h => hts w (List.mem_cons_of_mem _ h), hK, hC⟩ x1 x2 I L Q  hv hP hD va_S.rf hl
abbrev rm_X6_payAll : Room := { frames := 6, cells := 0, slots := 0, locals := 144 }
def vc_X6_payAll_2 : Nat → Int32 → Int32 → mm_I → mm_L → (mm_I → mm_L → Prop) → Prop
  | 0, _, _, _, _, _ => False
  | n9 + 1, x1, x2, I, L, Q => (6 ≤ x2 → Q I L) ∧ (¬ 6 ≤ x2 → vc_X3_wipe x1 x2 I L (fun I402 L403 => vp_in x2 6 ∧ ((I402 (24 + x2.toNatClampNeg) 3) = 0 → vc_X6_payAll_2 n9 x1 (x2 + 1) I402 L403 Q) ∧ (¬ (I402 (24 + x2.toNatClampNeg) 3) = 0 → vc_X6_payOne x1 x2 I402 L403 (fun I406 L407 => vc_X6_payAll_2 n9 x1 (x2 + 1) I406 L407 Q))))
def vc_X6_payAll_0 (x1 : Int32) (I : mm_I) (L : mm_L) (Q : mm_I → mm_L → Prop) : Prop :=
  ∃ n, vc_X6_payAll_2 n x1 0 I L Q
set_option maxHeartbeats 4000000 in
set_option maxRecDepth 100000 in
theorem w_X6_payAll_2 {p : Program} {l : Launch} {e : Env} {s : State} {m : MethodId} {args : Array Value} {below : List Frame} {meth : Method} {c : Code} {G : mm_G} (hcx : mm_cx c_X6_payAll none 3 RX6 G p s m args meth c) (Q : mm_I → mm_L → Prop) : ∀ (n9 : Nat) (x1 : Int32) (x2 : Int32) (I : mm_I) (L : mm_L)  (H : Heap) (locs : List Loc) (ls : Array Slot), vc_X6_payAll_2 n9 x1 x2 I L Q → mm_PW G I L H → mm_DW G I L → va_S G.2.2.2.1 s.heap H locs → lv_has ls 3 [(0, .ref (G.2.2.1 0)), (1, .int x1), (2, .int x2)] → W p l e (headSpec w_X6_payAll rm_X6_payAll).room s m args below meth c H locs 0 0 (MQ below (mm_qv G Q) args s 0 0 G.2.2.2.1) (F0 m 2 ls []) := by
  obtain ⟨hx, hb, hr, hlocks, hml, hown, hg, hK, hC⟩ := id hcx
  intro n9
  induction n9 with
  | zero => intro x1 x2 I L H locs ls hv hP hD hS hl; exact hv.elim
  | succ n9 ih =>
    intro x1 x2 I L H locs ls hv hP hD hS hl
    rw [vc_X6_payAll_2] at hv
    refine lv_iload_n hx hb d_X6_payAll_2 rfl (lv_at hl 2 rfl) ?_
    refine lv_bipush (v := 6) hx hb d_X6_payAll_3 (by decide) ?_
    refine lv_icmp_ge (tgt := 41) hx hb d_X6_payAll_5 (by decide) (fun hc => ?_) (fun hc => ?_)
    · have hv := hv.1 hc
      exact W.vret hx hb hr (fun t ht hW => ⟨⟨(I, L), rfl, hv, mm_mv ht hP⟩, hS.F ht⟩) hS.2.2 d_X6_payAll_41
    · have hv := hv.2 hc
      refine lv_aload_n hx hb d_X6_payAll_8 rfl (lv_at hl 0 rfl) ?_
      refine mm_gr (D := G.1) (C := RX6) (T := TX6) (N0 := 3) (r := 14) hx hb hg in_X6 hown hK hP (t := 0) (by decide) rfl rfl 2 (by decide) (hg _ k_152) (fun _ h9 => h9) rfl d_X6_payAll_9 ?_
      refine lv_iload_n hx hb d_X6_payAll_12 rfl (lv_at hl 1 rfl) ?_
      refine lv_iload_n hx hb d_X6_payAll_13 rfl (lv_at hl 2 rfl) ?_
      refine va_callv (va_runV (As := [.int x1, .int x2]) (rest := []) ⟨hx, hb, hml, hown, hg⟩ (m_X3_wipe l G x1 x2 I L _  hv) (cwV 2 hg (mm_gV k_165 k_166 k_167 k_139 kc_X3_wipe) rfl rfl rfl (by decide +kernel) ⟨Nat.le_of_ble_eq_true rfl, Nat.le_of_ble_eq_true rfl⟩) ⟨mm_blind, mm_recv hK hP (t := 14) (by decide) rfl rfl, fun U hU hW => mm_call hP hK hD hC hU hS hW⟩ rfl rfl hl.1 rfl (lv_room (Nat.le_of_ble_eq_true rfl)) d_X6_payAll_14 ⟨Nat.zero_le _, Nat.zero_le _⟩) hS (fun q _ h => h) (fun q h => h) (fun u t H locs ht hvm hv hP hz1 hk1 hS => ?_)
      obtain ⟨I402, L403⟩ := u
      dsimp only at hv hP
      rw [ht] at hP
      have hD : mm_DW G I402 L403 := mm_D_any hD
      refine lv_aload_n hx hb d_X6_payAll_17 rfl (lv_at hl 0 rfl) ?_
      refine mm_gr (D := G.1) (C := RX6) (T := TX6) (N0 := 3) (r := 13) hx hb hg in_X6 hown hK hP (t := 0) (by decide) rfl rfl 1 (by decide) (hg _ k_54) (fun _ h9 => h9) rfl d_X6_payAll_18 ?_
      refine lv_iload_n hx hb d_X6_payAll_21 rfl (lv_at hl 2 rfl) ?_
      obtain ⟨h405, hv⟩ := hv
      refine mm_aald (D := G.1) hx hb hK hP (t := 13) (by decide) rfl rfl h405 (r := (24 + x2.toNatClampNeg)) (rfl) d_X6_payAll_22 ?_
      refine mm_gi (D := G.1) (C := RX1) (T := TX1) (N0 := 4) hx hb hg in_X1 hown hK hP (t := (24 + x2.toNatClampNeg)) (ly_N_PS (mm_lt h405)) (ly_PS (mm_lt h405)) rfl 3 (by decide) (hg _ k_56) (fun _ h9 => h9) rfl d_X6_payAll_23 ?_
      refine lv_if_eq (tgt := 35) hx hb d_X6_payAll_26 (by decide) (fun hc => ?_) (fun hc => ?_)
      · have hv := hv.1 hc
        refine lv_iinc (v := (x2 + 1)) (lv' := [(2, .int (x2 + 1)), (0, .ref (G.2.2.1 0)), (1, .int x1)]) hx hb d_X6_payAll_35 hl (k := 2) rfl (by rfl) (by decide) rfl (fun ls hl => ?_)
        refine lv_goto (tgt := 2) hx hb d_X6_payAll_38 (by decide) ?_
        exact ih x1 (x2 + 1) I402 L403  H locs ls hv hP hD hS (lv_sub hl [1, 2, 0] rfl)
      · have hv := hv.2 hc
        refine lv_aload_n hx hb d_X6_payAll_29 rfl (lv_at hl 0 rfl) ?_
        refine lv_iload_n hx hb d_X6_payAll_30 rfl (lv_at hl 1 rfl) ?_
        refine lv_iload_n hx hb d_X6_payAll_31 rfl (lv_at hl 2 rfl) ?_
        refine va_callv (va_runV (As := [.int x1, .int x2]) (rest := []) ⟨hx, hb, hml, hown, hg⟩ (m_X6_payOne l G x1 x2 I402 L403 _  hv) (cwV 2 hg (mm_gV k_162 k_163 k_164 k_1 kc_X6_payOne) rfl rfl rfl (by decide +kernel) ⟨Nat.le_of_ble_eq_true rfl, Nat.le_of_ble_eq_true rfl⟩) ⟨mm_blind, mm_recv hK hP (t := 0) (by decide) rfl rfl, fun U hU hW => mm_call hP hK hD hC hU hS hW⟩ rfl rfl hl.1 rfl (lv_room (Nat.le_of_ble_eq_true rfl)) d_X6_payAll_32 ⟨Nat.zero_le _, Nat.zero_le _⟩) hS (fun q _ h => h) (fun q h => h) (fun u t H locs ht hvm hv hP hz1 hk1 hS => ?_)
        obtain ⟨I406, L407⟩ := u
        dsimp only at hv hP
        rw [ht] at hP
        have hD : mm_DW G I406 L407 := mm_D_any hD
        refine lv_iinc (v := (x2 + 1)) (lv' := [(2, .int (x2 + 1)), (0, .ref (G.2.2.1 0)), (1, .int x1)]) hx hb d_X6_payAll_35 hl (k := 2) rfl (by rfl) (by decide) rfl (fun ls hl => ?_)
        refine lv_goto (tgt := 2) hx hb d_X6_payAll_38 (by decide) ?_
        exact ih x1 (x2 + 1) I406 L407  H locs ls hv hP hD hS (lv_sub hl [1, 2, 0] rfl)
set_option maxHeartbeats 4000000 in
set_option maxRecDepth 100000 in
theorem w_X6_payAll_0 {p : Program} {l : Launch} {e : Env} {s : State} {m : MethodId} {args : Array Value} {below : List Frame} {meth : Method} {c : Code} {G : mm_G} (hcx : mm_cx c_X6_payAll none 3 RX6 G p s m args meth c) (x1 : Int32) (I : mm_I) (L : mm_L) (Q : mm_I → mm_L → Prop)  (hv : vc_X6_payAll_0 x1 I L Q) {H : Heap} {locs : List Loc} (hP : mm_PW G I L H) (hD : mm_DW G I L) (hS : va_S G.2.2.2.1 s.heap H locs) {ls : Array Slot} (hl : lv_has ls 3 [(0, .ref (G.2.2.1 0)), (1, .int x1)]) : W p l e (headSpec w_X6_payAll rm_X6_payAll).room s m args below meth c H locs 0 0 (MQ below (mm_qv G Q) args s 0 0 G.2.2.2.1) (F0 m 0 ls []) := by
  obtain ⟨hx, hb, hr, hlocks, hml, hown, hg, hK, hC⟩ := id hcx
  unfold vc_X6_payAll_0 at hv
  refine lv_iconst (v := 0) hx hb d_X6_payAll_0 (by decide) ?_
  refine lv_istore_n (lv' := [(2, .int 0), (0, .ref (G.2.2.1 0)), (1, .int x1)]) hx hb d_X6_payAll_1 rfl hl (by decide) rfl (fun ls hl => ?_)
  obtain ⟨n, hv⟩ := hv
  exact w_X6_payAll_2 hcx Q n x1 0 I L  H locs ls hv hP hD hS (lv_sub hl [1, 2, 0] rfl)
abbrev vc_X6_payAll (x1 : Int32) (I : mm_I) (L : mm_L) (Q : mm_I → mm_L → Prop) : Prop := vc_X6_payAll_0 x1 I L Q
set_option maxHeartbeats 4000000 in
set_option maxRecDepth 100000 in
theorem m_X6_payAll (l : Launch) (G : mm_G) (x1 : Int32) (I : mm_I) (L : mm_L) (Q : mm_I → mm_L → Prop)  (hv : vc_X6_payAll x1 I L Q) : Met l y_X6_payAll w_X6_payAll rm_X6_payAll (mm_pre G [.ref (G.2.2.1 0), .int x1] I L) (mm_qv G Q) 0 0 G.2.2.2.1 := by
  refine Met.ofW (cc := c_X6_payAll) (maxL := 3) (ret := none) (by decide) rfl ?_
  intro p e s m args below meth c s₁ B hml hw
  obtain ⟨rfl, hP, hK, hD, hC⟩ := hw
  have hts := atoms_spec (ws := w_X6_payAll) B.pre
  have hown : s.vm.findClass RX6 = some m.cls := findClass_of_methodNamed B.named
  have hl := lv_entry ([.ref (G.2.2.1 0), .int x1]) (n := 3) (Nat.le_of_ble_eq_true rfl)
  rw [lg_entry_eq]
  generalize (lg_sl ([.ref (G.2.2.1 0), .int x1]) ++ List.replicate (3 - (lg_sl ([.ref (G.2.2.1 0), .int x1])).length) Slot.unset).toArray = ls at hl ⊢
  have hl : lv_has ls 3 [(0, .ref (G.2.2.1 0)), (1, .int x1)] := hl
  exact w_X6_payAll_0 ⟨B.exec, B.bytes, B.returns, B.notSynchronized, hml, hown, fun w h => hts w (List.mem_cons_of_mem _ h), hK, hC⟩ x1 I L Q  hv hP hD va_S.rf hl
abbrev rm_X6_pay : Room := { frames := 7, cells := 0, slots := 0, locals := 166 }
def vc_X6_pay_0  (I : mm_I) (L : mm_L) (Q : Int32 → mm_I → mm_L → Prop) : Prop :=
  (¬ (I 14 3) = 16 → vc_X6_payAll (I 14 3) (mm_uI I 14 3 ((I 14 3) + 1)) L (fun I409 L410 => Q (I 14 3) I409 L410)) ∧ ((I 14 3) = 16 → Q (-2) I L)
set_option maxHeartbeats 4000000 in
set_option maxRecDepth 100000 in
theorem w_X6_pay_0 {p : Program} {l : Launch} {e : Env} {s : State} {m : MethodId} {args : Array Value} {below : List Frame} {meth : Method} {c : Code} {G : mm_G} (hcx : mm_cx c_X6_pay (some .int) 2 RX6 G p s m args meth c)  (I : mm_I) (L : mm_L) (Q : Int32 → mm_I → mm_L → Prop)  (hv : vc_X6_pay_0  I L Q) {H : Heap} {locs : List Loc} (hP : mm_PW G I L H) (hD : mm_DW G I L) (hS : va_S G.2.2.2.1 s.heap H locs) {ls : Array Slot} (hl : lv_has ls 2 [(0, .ref (G.2.2.1 0))]) : W p l e (headSpec w_X6_pay rm_X6_pay).room s m args below meth c H locs 0 0 (MQ below (mm_qi G Q) args s 0 0 G.2.2.2.1) (F0 m 0 ls []) := by
  obtain ⟨hx, hb, hr, hlocks, hml, hown, hg, hK, hC⟩ := id hcx
  unfold vc_X6_pay_0 at hv
  refine lv_aload_n hx hb d_X6_pay_0 rfl (lv_at hl 0 rfl) ?_
  refine mm_gr (D := G.1) (C := RX6) (T := TX6) (N0 := 3) (r := 14) hx hb hg in_X6 hown hK hP (t := 0) (by decide) rfl rfl 2 (by decide) (hg _ k_152) (fun _ h9 => h9) rfl d_X6_pay_1 ?_
  refine mm_gi (D := G.1) (C := RX3) (T := TX3) (N0 := 4) hx hb hg in_X3 hown hK hP (t := 14) (by decide) rfl rfl 3 (by decide) (hg _ k_168) (fun _ h9 => h9) rfl d_X6_pay_4 ?_
  refine lv_bipush (v := 16) hx hb d_X6_pay_7 (by decide) ?_
  refine lv_icmp_ne (tgt := 15) hx hb d_X6_pay_9 (by decide) (fun hc => ?_) (fun hc => ?_)
  · have hv := hv.1 hc
    refine lv_aload_n hx hb d_X6_pay_15 rfl (lv_at hl 0 rfl) ?_
    refine mm_gr (D := G.1) (C := RX6) (T := TX6) (N0 := 3) (r := 14) hx hb hg in_X6 hown hK hP (t := 0) (by decide) rfl rfl 2 (by decide) (hg _ k_152) (fun _ h9 => h9) rfl d_X6_pay_16 ?_
    refine mm_gi (D := G.1) (C := RX3) (T := TX3) (N0 := 4) hx hb hg in_X3 hown hK hP (t := 14) (by decide) rfl rfl 3 (by decide) (hg _ k_168) (fun _ h9 => h9) rfl d_X6_pay_19 ?_
    refine lv_istore_n (lv' := [(1, .int (I 14 3)), (0, .ref (G.2.2.1 0))]) hx hb d_X6_pay_22 rfl hl (by decide) rfl (fun ls hl => ?_)
    refine lv_aload_n hx hb d_X6_pay_23 rfl (lv_at hl 1 rfl) ?_
    refine mm_gr (D := G.1) (C := RX6) (T := TX6) (N0 := 3) (r := 14) hx hb hg in_X6 hown hK hP (t := 0) (by decide) rfl rfl 2 (by decide) (hg _ k_152) (fun _ h9 => h9) rfl d_X6_pay_24 ?_
    refine lv_dup hx hb d_X6_pay_27 rfl ?_
    refine mm_gi (D := G.1) (C := RX3) (T := TX3) (N0 := 4) hx hb hg in_X3 hown hK hP (t := 14) (by decide) rfl rfl 3 (by decide) (hg _ k_168) (fun _ h9 => h9) rfl d_X6_pay_28 ?_
    refine lv_iconst (v := 1) hx hb d_X6_pay_31 (by decide) ?_
    refine lv_iadd hx hb d_X6_pay_32 ?_
    refine mm_pi (D := G.1) (C := RX3) (T := TX3) (N0 := 4) (ty := .int) hx hb hg in_X3 tyX3 tyX3_ok nmX3 hown hK hP hD hS (t := 14) (by decide) rfl rfl 3 (by decide) (hg _ k_168) (fun _ h9 => h9) rfl (by decide +kernel) rfl rfl rfl d_X6_pay_33 (fun H locs hP hD hS => ?_)
    refine lv_aload_n hx hb d_X6_pay_36 rfl (lv_at hl 1 rfl) ?_
    refine lv_iload_n hx hb d_X6_pay_37 rfl (lv_at hl 0 rfl) ?_
    refine va_callv (va_runV (As := [.int (I 14 3)]) (rest := []) ⟨hx, hb, hml, hown, hg⟩ (m_X6_payAll l G (I 14 3) (mm_uI I 14 3 ((I 14 3) + 1)) L _  hv) (cwV 1 hg (mm_gV k_169 k_170 k_171 k_1 kc_X6_payAll) rfl rfl rfl (by decide +kernel) ⟨Nat.le_of_ble_eq_true rfl, Nat.le_of_ble_eq_true rfl⟩) ⟨mm_blind, mm_recv hK hP (t := 0) (by decide) rfl rfl, fun U hU hW => mm_call hP hK hD hC hU hS hW⟩ rfl rfl hl.1 rfl (lv_room (Nat.le_of_ble_eq_true rfl)) d_X6_pay_38 ⟨Nat.zero_le _, Nat.zero_le _⟩) hS (fun q _ h => h) (fun q h => h) (fun u t H locs ht hvm hv hP hz1 hk1 hS => ?_)
    obtain ⟨I409, L410⟩ := u
    dsimp only at hv hP
    rw [ht] at hP
    have hD : mm_DW G I409 L410 := mm_D_any hD
    refine lv_iload_n hx hb d_X6_pay_41 rfl (lv_at hl 0 rfl) ?_
    exact W.iret (v := (I 14 3)) hx hb hr (fun t ht hW => ⟨⟨(I 14 3), (I409, L410), rfl, hv, mm_mv ht hP⟩, hS.F ht⟩) hS.2.2 d_X6_pay_42
  · have hv := hv.2 hc
    refine lv_bipush (v := (-2)) hx hb d_X6_pay_12 (by decide) ?_
    exact W.iret (v := (-2)) hx hb hr (fun t ht hW => ⟨⟨(-2), (I, L), rfl, hv, mm_mv ht hP⟩, hS.F ht⟩) hS.2.2 d_X6_pay_14
abbrev vc_X6_pay  (I : mm_I) (L : mm_L) (Q : Int32 → mm_I → mm_L → Prop) : Prop := vc_X6_pay_0  I L Q
set_option maxHeartbeats 4000000 in
set_option maxRecDepth 100000 in
theorem m_X6_pay (l : Launch) (G : mm_G)  (I : mm_I) (L : mm_L) (Q : Int32 → mm_I → mm_L → Prop)  (hv : vc_X6_pay  I L Q) : Met l y_X6_pay w_X6_pay rm_X6_pay (mm_pre G [.ref (G.2.2.1 0)] I L) (mm_qi G Q) 0 0 G.2.2.2.1 := by
  refine Met.ofW (cc := c_X6_pay) (maxL := 2) (ret := (some .int)) (by decide) rfl ?_
  intro p e s m args below meth c s₁ B hml hw
  obtain ⟨rfl, hP, hK, hD, hC⟩ := hw
  have hts := atoms_spec (ws := w_X6_pay) B.pre
  have hown : s.vm.findClass RX6 = some m.cls := findClass_of_methodNamed B.named
  have hl := lv_entry ([.ref (G.2.2.1 0)]) (n := 2) (Nat.le_of_ble_eq_true rfl)
  rw [lg_entry_eq]
  generalize (lg_sl ([.ref (G.2.2.1 0)]) ++ List.replicate (2 - (lg_sl ([.ref (G.2.2.1 0)])).length) Slot.unset).toArray = ls at hl ⊢
  have hl : lv_has ls 2 [(0, .ref (G.2.2.1 0))] := hl
  exact w_X6_pay_0 ⟨B.exec, B.bytes, B.returns, B.notSynchronized, hml, hown, fun w h => hts w (List.mem_cons_of_mem _ h), hK, hC⟩  I L Q  hv hP hD va_S.rf hl
abbrev rm_X3_has : Room := { frames := 1, cells := 0, slots := 0, locals := 21 }
def vc_X3_has_0 (x1 : Int32) (I : mm_I) (L : mm_L) (Q : Int32 → mm_I → mm_L → Prop) : Prop :=
  vc_X6_within x1 (I 14 3) I L (fun r414 I412 L413 => zb r414 ∧ Q r414 I412 L413)
set_option maxHeartbeats 4000000 in
set_option maxRecDepth 100000 in
theorem w_X3_has_0 {p : Program} {l : Launch} {e : Env} {s : State} {m : MethodId} {args : Array Value} {below : List Frame} {meth : Method} {c : Code} {G : mm_G} (hcx : mm_cx c_X3_has (some .boolean) 2 RX3 G p s m args meth c) (x1 : Int32) (I : mm_I) (L : mm_L) (Q : Int32 → mm_I → mm_L → Prop)  (hv : vc_X3_has_0 x1 I L Q) {H : Heap} {locs : List Loc} (hP : mm_PW G I L H) (hD : mm_DW G I L) (hS : va_S G.2.2.2.1 s.heap H locs) {ls : Array Slot} (hl : lv_has ls 2 [(0, .ref (G.2.2.1 14)), (1, .int x1)]) : W p l e (headSpec w_X3_has rm_X3_has).room s m args below meth c H locs 0 0 (MQ below (mm_qi G Q) args s 0 0 G.2.2.2.1) (F0 m 0 ls []) := by
  obtain ⟨hx, hb, hr, hlocks, hml, hown, hg, hK, hC⟩ := id hcx
  unfold vc_X3_has_0 at hv
  refine lv_iload_n hx hb d_X3_has_0 rfl (lv_at hl 1 rfl) ?_
  refine lv_aload_n hx hb d_X3_has_1 rfl (lv_at hl 0 rfl) ?_
  refine mm_gi (D := G.1) (C := RX3) (T := TX3) (N0 := 4) hx hb hg in_X3 hown hK hP (t := 14) (by decide) rfl rfl 3 (by decide) (hg _ k_172) (fun _ h9 => h9) rfl d_X3_has_2 ?_
  refine va_calli (va_runSN (As := [.int x1, .int (I 14 3)]) (rest := []) ⟨hx, hb, hml, hown, hg⟩ (m_X6_within l G x1 (I 14 3) I L _  hv) ⟨va_cnB 2 hg (mm_g1 kc_X6_within mm_GW_self) rfl rfl rfl (nw_6 hC.2.2) (hg _ k_1) (by decide +kernel) ⟨Nat.le_of_ble_eq_true rfl, Nat.le_of_ble_eq_true rfl⟩, hg _ k_2, trivial⟩ ⟨mm_blind, fun U hU hW => mm_call hP hK hD hC hU hS hW⟩ rfl rfl hl.1 rfl (lv_room (Nat.le_of_ble_eq_true rfl)) d_X3_has_5 ⟨Nat.zero_le _, Nat.zero_le _⟩) hS (fun q _ h => h) (fun q h => h) (fun r414 u t H locs ht hvm hv hP hz1 hk1 hS => ?_)
  obtain ⟨I412, L413⟩ := u
  dsimp only at hv hP
  rw [ht] at hP
  have hD : mm_DW G I412 L413 := mm_D_any hD
  exact W.zret (v := r414) (ty := .boolean) hx hb hr (zb_n hv.1) (fun t ht hW => ⟨⟨r414, (I412, L413), rfl, hv.2, mm_mv ht hP⟩, hS.F ht⟩) hS.2.2 d_X3_has_8
abbrev vc_X3_has (x1 : Int32) (I : mm_I) (L : mm_L) (Q : Int32 → mm_I → mm_L → Prop) : Prop := vc_X3_has_0 x1 I L Q
set_option maxHeartbeats 4000000 in
set_option maxRecDepth 100000 in
theorem m_X3_has (l : Launch) (G : mm_G) (x1 : Int32) (I : mm_I) (L : mm_L) (Q : Int32 → mm_I → mm_L → Prop)  (hv : vc_X3_has x1 I L Q) : Met l y_X3_has w_X3_has rm_X3_has (mm_pre G [.ref (G.2.2.1 14), .int x1] I L) (mm_qi G Q) 0 0 G.2.2.2.1 := by
  refine Met.ofW (cc := c_X3_has) (maxL := 2) (ret := (some .boolean)) (by decide) rfl ?_
  intro p e s m args below meth c s₁ B hml hw
  obtain ⟨rfl, hP, hK, hD, hC⟩ := hw
  have hts := atoms_spec (ws := w_X3_has) B.pre
  have hown : s.vm.findClass RX3 = some m.cls := findClass_of_methodNamed B.named
  have hl := lv_entry ([.ref (G.2.2.1 14), .int x1]) (n := 2) (Nat.le_of_ble_eq_true rfl)
  rw [lg_entry_eq]
  generalize (lg_sl ([.ref (G.2.2.1 14), .int x1]) ++ List.replicate (2 - (lg_sl ([.ref (G.2.2.1 14), .int x1])).length) Slot.unset).toArray = ls at hl ⊢
  have hl : lv_has ls 2 [(0, .ref (G.2.2.1 14)), (1, .int x1)] := hl
  exact w_X3_has_0 ⟨B.exec, B.bytes, B.returns, B.notSynchronized, hml, hown, fun w h => hts w (List.mem_cons_of_mem _ h), hK, hC⟩ x1 I L Q  hv hP hD va_S.rf hl
abbrev rm_X3_stands : Room := { frames := 2, cells := 0, slots := 0, locals := 42 }
def vc_X3_stands_0 (x1 : Int32) (I : mm_I) (L : mm_L) (Q : Int32 → mm_I → mm_L → Prop) : Prop :=
  vc_X3_has x1 I L (fun r417 I415 L416 => (r417 = 0 → Q 0 I415 L416) ∧ (¬ r417 = 0 → vp_in x1 16 ∧ (¬ (I415 17 x1.toNatClampNeg) = 0 → Q 0 I415 L416) ∧ ((I415 17 x1.toNatClampNeg) = 0 → Q 1 I415 L416)))
set_option maxHeartbeats 4000000 in
set_option maxRecDepth 100000 in
theorem w_X3_stands_0 {p : Program} {l : Launch} {e : Env} {s : State} {m : MethodId} {args : Array Value} {below : List Frame} {meth : Method} {c : Code} {G : mm_G} (hcx : mm_cx c_X3_stands (some .boolean) 2 RX3 G p s m args meth c) (x1 : Int32) (I : mm_I) (L : mm_L) (Q : Int32 → mm_I → mm_L → Prop)  (hv : vc_X3_stands_0 x1 I L Q) {H : Heap} {locs : List Loc} (hP : mm_PW G I L H) (hD : mm_DW G I L) (hS : va_S G.2.2.2.1 s.heap H locs) {ls : Array Slot} (hl : lv_has ls 2 [(0, .ref (G.2.2.1 14)), (1, .int x1)]) : W p l e (headSpec w_X3_stands rm_X3_stands).room s m args below meth c H locs 0 0 (MQ below (mm_qi G Q) args s 0 0 G.2.2.2.1) (F0 m 0 ls []) := by
  obtain ⟨hx, hb, hr, hlocks, hml, hown, hg, hK, hC⟩ := id hcx
  unfold vc_X3_stands_0 at hv
  refine lv_aload_n hx hb d_X3_stands_0 rfl (lv_at hl 0 rfl) ?_
  refine lv_iload_n hx hb d_X3_stands_1 rfl (lv_at hl 1 rfl) ?_
  refine va_calli (va_runV (As := [.int x1]) (rest := []) ⟨hx, hb, hml, hown, hg⟩ (m_X3_has l G x1 I L _  hv) (cwV 1 hg (mm_gV k_174 k_175 k_176 k_139 kc_X3_has) rfl rfl rfl (by decide +kernel) ⟨Nat.le_of_ble_eq_true rfl, Nat.le_of_ble_eq_true rfl⟩) ⟨mm_blind, mm_recv hK hP (t := 14) (by decide) rfl rfl, fun U hU hW => mm_call hP hK hD hC hU hS hW⟩ rfl rfl hl.1 rfl (lv_room (Nat.le_of_ble_eq_true rfl)) d_X3_stands_2 ⟨Nat.zero_le _, Nat.zero_le _⟩) hS (fun q _ h => h) (fun q h => h) (fun r417 u t H locs ht hvm hv hP hz1 hk1 hS => ?_)
  obtain ⟨I415, L416⟩ := u
  dsimp only at hv hP
  rw [ht] at hP
  have hD : mm_DW G I415 L416 := mm_D_any hD
  refine lv_if_eq (tgt := 21) hx hb d_X3_stands_5 (by decide) (fun hc => ?_) (fun hc => ?_)
  · have hv := hv.1 hc
    refine lv_iconst (v := 0) hx hb d_X3_stands_21 (by decide) ?_
    exact W.zret (v := 0) (ty := .boolean) hx hb hr (by decide) (fun t ht hW => ⟨⟨0, (I415, L416), rfl, hv, mm_mv ht hP⟩, hS.F ht⟩) hS.2.2 d_X3_stands_22
  · have hv := hv.2 hc
    refine lv_aload_n hx hb d_X3_stands_8 rfl (lv_at hl 0 rfl) ?_
    refine mm_gr (D := G.1) (C := RX3) (T := TX3) (N0 := 4) (r := 17) hx hb hg in_X3 hown hK hP (t := 14) (by decide) rfl rfl 2 (by decide) (hg _ k_173) (fun _ h9 => h9) rfl d_X3_stands_9 ?_
    refine lv_iload_n hx hb d_X3_stands_12 rfl (lv_at hl 1 rfl) ?_
    obtain ⟨h418, hv⟩ := hv
    refine mm_zald (D := G.1) hx hb hK hP (t := 17) (by decide) rfl rfl h418 d_X3_stands_13 ?_
    refine lv_if_ne (tgt := 21) hx hb d_X3_stands_14 (by decide) (fun hc => ?_) (fun hc => ?_)
    · have hv := hv.1 hc
      refine lv_iconst (v := 0) hx hb d_X3_stands_21 (by decide) ?_
      exact W.zret (v := 0) (ty := .boolean) hx hb hr (by decide) (fun t ht hW => ⟨⟨0, (I415, L416), rfl, hv, mm_mv ht hP⟩, hS.F ht⟩) hS.2.2 d_X3_stands_22
    · have hv := hv.2 hc
      refine lv_iconst (v := 1) hx hb d_X3_stands_17 (by decide) ?_
      refine lv_goto (tgt := 22) hx hb d_X3_stands_18 (by decide) ?_
      exact W.zret (v := 1) (ty := .boolean) hx hb hr (by decide) (fun t ht hW => ⟨⟨1, (I415, L416), rfl, hv, mm_mv ht hP⟩, hS.F ht⟩) hS.2.2 d_X3_stands_22
abbrev vc_X3_stands (x1 : Int32) (I : mm_I) (L : mm_L) (Q : Int32 → mm_I → mm_L → Prop) : Prop := vc_X3_stands_0 x1 I L Q
set_option maxHeartbeats 4000000 in
set_option maxRecDepth 100000 in
theorem m_X3_stands (l : Launch) (G : mm_G) (x1 : Int32) (I : mm_I) (L : mm_L) (Q : Int32 → mm_I → mm_L → Prop)  (hv : vc_X3_stands x1 I L Q) : Met l y_X3_stands w_X3_stands rm_X3_stands (mm_pre G [.ref (G.2.2.1 14), .int x1] I L) (mm_qi G Q) 0 0 G.2.2.2.1 := by
  refine Met.ofW (cc := c_X3_stands) (maxL := 2) (ret := (some .boolean)) (by decide) rfl ?_
  intro p e s m args below meth c s₁ B hml hw
  obtain ⟨rfl, hP, hK, hD, hC⟩ := hw
  have hts := atoms_spec (ws := w_X3_stands) B.pre
  have hown : s.vm.findClass RX3 = some m.cls := findClass_of_methodNamed B.named
  have hl := lv_entry ([.ref (G.2.2.1 14), .int x1]) (n := 2) (Nat.le_of_ble_eq_true rfl)
  rw [lg_entry_eq]
  generalize (lg_sl ([.ref (G.2.2.1 14), .int x1]) ++ List.replicate (2 - (lg_sl ([.ref (G.2.2.1 14), .int x1])).length) Slot.unset).toArray = ls at hl ⊢
  have hl : lv_has ls 2 [(0, .ref (G.2.2.1 14)), (1, .int x1)] := hl
  exact w_X3_stands_0 ⟨B.exec, B.bytes, B.returns, B.notSynchronized, hml, hown, fun w h => hts w (List.mem_cons_of_mem _ h), hK, hC⟩ x1 I L Q  hv hP hD va_S.rf hl
abbrev rm_X3_hasSlip : Room := { frames := 1, cells := 0, slots := 0, locals := 21 }
def vc_X3_hasSlip_0 (x1 : Int32) (x2 : Int32) (I : mm_I) (L : mm_L) (Q : Int32 → mm_I → mm_L → Prop) : Prop :=
  vc_X3_placeOf x1 x2 I L (fun r421 I419 L420 => vp_in r421 288 ∧ ((L420 15 r421.toNatClampNeg) = 1000000000000 → Q 0 I419 L420) ∧ (¬ (L420 15 r421.toNatClampNeg) = 1000000000000 → Q 1 I419 L420))
set_option maxHeartbeats 4000000 in
set_option maxRecDepth 100000 in
theorem w_X3_hasSlip_0 {p : Program} {l : Launch} {e : Env} {s : State} {m : MethodId} {args : Array Value} {below : List Frame} {meth : Method} {c : Code} {G : mm_G} (hcx : mm_cx c_X3_hasSlip (some .boolean) 3 RX3 G p s m args meth c) (x1 : Int32) (x2 : Int32) (I : mm_I) (L : mm_L) (Q : Int32 → mm_I → mm_L → Prop)  (hv : vc_X3_hasSlip_0 x1 x2 I L Q) {H : Heap} {locs : List Loc} (hP : mm_PW G I L H) (hD : mm_DW G I L) (hS : va_S G.2.2.2.1 s.heap H locs) {ls : Array Slot} (hl : lv_has ls 3 [(0, .ref (G.2.2.1 14)), (1, .int x1), (2, .int x2)]) : W p l e (headSpec w_X3_hasSlip rm_X3_hasSlip).room s m args below meth c H locs 0 0 (MQ below (mm_qi G Q) args s 0 0 G.2.2.2.1) (F0 m 0 ls []) := by
  obtain ⟨hx, hb, hr, hlocks, hml, hown, hg, hK, hC⟩ := id hcx
  unfold vc_X3_hasSlip_0 at hv
  refine lv_aload_n hx hb d_X3_hasSlip_0 rfl (lv_at hl 0 rfl) ?_
  refine mm_gr (D := G.1) (C := RX3) (T := TX3) (N0 := 4) (r := 15) hx hb hg in_X3 hown hK hP (t := 14) (by decide) rfl rfl 0 (by decide) (hg _ k_136) (fun _ h9 => h9) rfl d_X3_hasSlip_1 ?_
  refine lv_iload_n hx hb d_X3_hasSlip_4 rfl (lv_at hl 1 rfl) ?_
  refine lv_iload_n hx hb d_X3_hasSlip_5 rfl (lv_at hl 2 rfl) ?_
  refine va_calli (va_runS (As := [.int x1, .int x2]) (rest := [.ref (G.2.2.1 15)]) ⟨hx, hb, hml, hown, hg⟩ (m_X3_placeOf l G x1 x2 I L _  hv) (va_cwS 2 hg (mm_gS k_137 k_138 k_139 kc_X3_placeOf) rfl rfl rfl (by decide +kernel) ⟨Nat.le_of_ble_eq_true rfl, Nat.le_of_ble_eq_true rfl⟩) ⟨mm_blind, fun U hU hW => mm_call hP hK hD hC hU hS hW⟩ rfl rfl hl.1 rfl (lv_room (Nat.le_of_ble_eq_true rfl)) d_X3_hasSlip_6 ⟨Nat.zero_le _, Nat.zero_le _⟩) hS (fun q _ h => h) (fun q h => h) (fun r421 u t H locs ht hvm hv hP hz1 hk1 hS => ?_)
  obtain ⟨I419, L420⟩ := u
  dsimp only at hv hP
  rw [ht] at hP
  have hD : mm_DW G I419 L420 := mm_D_any hD
  obtain ⟨h422, hv⟩ := hv
  refine mm_lald (D := G.1) hx hb hK hP (t := 15) (by decide) rfl rfl h422 d_X3_hasSlip_9 ?_
  refine lv_ldc2 (v := 1000000000000) hx hb hown (hg _ k_141) d_X3_hasSlip_10 ?_
  refine W.lcmp hx hb d_X3_hasSlip_13 ?_
  refine lv_if_eq (tgt := 21) hx hb d_X3_hasSlip_14 (by decide) (fun hc => ?_) (fun hc => ?_)
  · have hv := hv.1 ((lg_cmp_eq _ _).mp hc)
    refine lv_iconst (v := 0) hx hb d_X3_hasSlip_21 (by decide) ?_
    exact W.zret (v := 0) (ty := .boolean) hx hb hr (by decide) (fun t ht hW => ⟨⟨0, (I419, L420), rfl, hv, mm_mv ht hP⟩, hS.F ht⟩) hS.2.2 d_X3_hasSlip_22
  · have hv := hv.2 (fun q => hc ((lg_cmp_eq _ _).mpr q))
    refine lv_iconst (v := 1) hx hb d_X3_hasSlip_17 (by decide) ?_
    refine lv_goto (tgt := 22) hx hb d_X3_hasSlip_18 (by decide) ?_
    exact W.zret (v := 1) (ty := .boolean) hx hb hr (by decide) (fun t ht hW => ⟨⟨1, (I419, L420), rfl, hv, mm_mv ht hP⟩, hS.F ht⟩) hS.2.2 d_X3_hasSlip_22
abbrev vc_X3_hasSlip (x1 : Int32) (x2 : Int32) (I : mm_I) (L : mm_L) (Q : Int32 → mm_I → mm_L → Prop) : Prop := vc_X3_hasSlip_0 x1 x2 I L Q
set_option maxHeartbeats 4000000 in
set_option maxRecDepth 100000 in
theorem m_X3_hasSlip (l : Launch) (G : mm_G) (x1 : Int32) (x2 : Int32) (I : mm_I) (L : mm_L) (Q : Int32 → mm_I → mm_L → Prop)  (hv : vc_X3_hasSlip x1 x2 I L Q) : Met l y_X3_hasSlip w_X3_hasSlip rm_X3_hasSlip (mm_pre G [.ref (G.2.2.1 14), .int x1, .int x2] I L) (mm_qi G Q) 0 0 G.2.2.2.1 := by
  refine Met.ofW (cc := c_X3_hasSlip) (maxL := 3) (ret := (some .boolean)) (by decide) rfl ?_
  intro p e s m args below meth c s₁ B hml hw
  obtain ⟨rfl, hP, hK, hD, hC⟩ := hw
  have hts := atoms_spec (ws := w_X3_hasSlip) B.pre
  have hown : s.vm.findClass RX3 = some m.cls := findClass_of_methodNamed B.named
  have hl := lv_entry ([.ref (G.2.2.1 14), .int x1, .int x2]) (n := 3) (Nat.le_of_ble_eq_true rfl)
  rw [lg_entry_eq]
  generalize (lg_sl ([.ref (G.2.2.1 14), .int x1, .int x2]) ++ List.replicate (3 - (lg_sl ([.ref (G.2.2.1 14), .int x1, .int x2])).length) Slot.unset).toArray = ls at hl ⊢
  have hl : lv_has ls 3 [(0, .ref (G.2.2.1 14)), (1, .int x1), (2, .int x2)] := hl
  exact w_X3_hasSlip_0 ⟨B.exec, B.bytes, B.returns, B.notSynchronized, hml, hown, fun w h => hts w (List.mem_cons_of_mem _ h), hK, hC⟩ x1 x2 I L Q  hv hP hD va_S.rf hl
abbrev rm_X3_amountOf : Room := { frames := 1, cells := 0, slots := 0, locals := 21 }
def vc_X3_amountOf_0 (x1 : Int32) (x2 : Int32) (x3 : Int32) (I : mm_I) (L : mm_L) (Q : Int64 → mm_I → mm_L → Prop) : Prop :=
  vc_X3_placeOf x1 x2 I L (fun r425 I423 L424 => vp_in (r425 + x3) 288 ∧ Q (L424 15 ((r425 + x3)).toNatClampNeg) I423 L424)
set_option maxHeartbeats 4000000 in
set_option maxRecDepth 100000 in
theorem w_X3_amountOf_0 {p : Program} {l : Launch} {e : Env} {s : State} {m : MethodId} {args : Array Value} {below : List Frame} {meth : Method} {c : Code} {G : mm_G} (hcx : mm_cx c_X3_amountOf (some .long) 4 RX3 G p s m args meth c) (x1 : Int32) (x2 : Int32) (x3 : Int32) (I : mm_I) (L : mm_L) (Q : Int64 → mm_I → mm_L → Prop)  (hv : vc_X3_amountOf_0 x1 x2 x3 I L Q) {H : Heap} {locs : List Loc} (hP : mm_PW G I L H) (hD : mm_DW G I L) (hS : va_S G.2.2.2.1 s.heap H locs) {ls : Array Slot} (hl : lv_has ls 4 [(0, .ref (G.2.2.1 14)), (1, .int x1), (2, .int x2), (3, .int x3)]) : W p l e (headSpec w_X3_amountOf rm_X3_amountOf).room s m args below meth c H locs 0 0 (MQ below (mm_ql G Q) args s 0 0 G.2.2.2.1) (F0 m 0 ls []) := by
  obtain ⟨hx, hb, hr, hlocks, hml, hown, hg, hK, hC⟩ := id hcx
  unfold vc_X3_amountOf_0 at hv
  refine lv_aload_n hx hb d_X3_amountOf_0 rfl (lv_at hl 0 rfl) ?_
  refine mm_gr (D := G.1) (C := RX3) (T := TX3) (N0 := 4) (r := 15) hx hb hg in_X3 hown hK hP (t := 14) (by decide) rfl rfl 0 (by decide) (hg _ k_136) (fun _ h9 => h9) rfl d_X3_amountOf_1 ?_
  refine lv_iload_n hx hb d_X3_amountOf_4 rfl (lv_at hl 1 rfl) ?_
  refine lv_iload_n hx hb d_X3_amountOf_5 rfl (lv_at hl 2 rfl) ?_
  refine va_calli (va_runS (As := [.int x1, .int x2]) (rest := [.ref (G.2.2.1 15)]) ⟨hx, hb, hml, hown, hg⟩ (m_X3_placeOf l G x1 x2 I L _  hv) (va_cwS 2 hg (mm_gS k_137 k_138 k_139 kc_X3_placeOf) rfl rfl rfl (by decide +kernel) ⟨Nat.le_of_ble_eq_true rfl, Nat.le_of_ble_eq_true rfl⟩) ⟨mm_blind, fun U hU hW => mm_call hP hK hD hC hU hS hW⟩ rfl rfl hl.1 rfl (lv_room (Nat.le_of_ble_eq_true rfl)) d_X3_amountOf_6 ⟨Nat.zero_le _, Nat.zero_le _⟩) hS (fun q _ h => h) (fun q h => h) (fun r425 u t H locs ht hvm hv hP hz1 hk1 hS => ?_)
  obtain ⟨I423, L424⟩ := u
  dsimp only at hv hP
  rw [ht] at hP
  have hD : mm_DW G I423 L424 := mm_D_any hD
  refine lv_iload_n hx hb d_X3_amountOf_9 rfl (lv_at hl 3 rfl) ?_
  refine lv_iadd hx hb d_X3_amountOf_10 ?_
  obtain ⟨h426, hv⟩ := hv
  refine mm_lald (D := G.1) hx hb hK hP (t := 15) (by decide) rfl rfl h426 d_X3_amountOf_11 ?_
  exact W.lret (v := (L424 15 ((r425 + x3)).toNatClampNeg)) hx hb hr (fun t ht hW => ⟨⟨(L424 15 ((r425 + x3)).toNatClampNeg), (I423, L424), rfl, hv, mm_mv ht hP⟩, hS.F ht⟩) hS.2.2 d_X3_amountOf_12
abbrev vc_X3_amountOf (x1 : Int32) (x2 : Int32) (x3 : Int32) (I : mm_I) (L : mm_L) (Q : Int64 → mm_I → mm_L → Prop) : Prop := vc_X3_amountOf_0 x1 x2 x3 I L Q
set_option maxHeartbeats 4000000 in
set_option maxRecDepth 100000 in
theorem m_X3_amountOf (l : Launch) (G : mm_G) (x1 : Int32) (x2 : Int32) (x3 : Int32) (I : mm_I) (L : mm_L) (Q : Int64 → mm_I → mm_L → Prop)  (hv : vc_X3_amountOf x1 x2 x3 I L Q) : Met l y_X3_amountOf w_X3_amountOf rm_X3_amountOf (mm_pre G [.ref (G.2.2.1 14), .int x1, .int x2, .int x3] I L) (mm_ql G Q) 0 0 G.2.2.2.1 := by
  refine Met.ofW (cc := c_X3_amountOf) (maxL := 4) (ret := (some .long)) (by decide) rfl ?_
  intro p e s m args below meth c s₁ B hml hw
  obtain ⟨rfl, hP, hK, hD, hC⟩ := hw
  have hts := atoms_spec (ws := w_X3_amountOf) B.pre
  have hown : s.vm.findClass RX3 = some m.cls := findClass_of_methodNamed B.named
  have hl := lv_entry ([.ref (G.2.2.1 14), .int x1, .int x2, .int x3]) (n := 4) (Nat.le_of_ble_eq_true rfl)
  rw [lg_entry_eq]
  generalize (lg_sl ([.ref (G.2.2.1 14), .int x1, .int x2, .int x3]) ++ List.replicate (4 - (lg_sl ([.ref (G.2.2.1 14), .int x1, .int x2, .int x3])).length) Slot.unset).toArray = ls at hl ⊢
  have hl : lv_has ls 4 [(0, .ref (G.2.2.1 14)), (1, .int x1), (2, .int x2), (3, .int x3)] := hl
  exact w_X3_amountOf_0 ⟨B.exec, B.bytes, B.returns, B.notSynchronized, hml, hown, fun w h => hts w (List.mem_cons_of_mem _ h), hK, hC⟩ x1 x2 x3 I L Q  hv hP hD va_S.rf hl
