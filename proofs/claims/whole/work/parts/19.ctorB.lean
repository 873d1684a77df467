abbrev rm_X0_init : Room := { frames := 1, cells := 7, slots := 490, locals := 12 }
set_option maxHeartbeats 8000000 in
set_option maxRecDepth 100000 in
theorem mt_X0_init (l : Launch) (dC : Nat → ClassId) (dI : Nat → Nat → Nat) (tc : Nat → ClassId) (h0 sz : Nat) : Met l y_X0_init w_X0_init rm_X0_init (va_Pc [.ref h0] (fun U => U.heap.size = sz ∧ va_P (dC, dI) vwCl [(h0, .inr (0, [.null, .null, .null, .null, .null, .null, .null, .int 0]))] U.heap ∧ va_K (dC, dI) vwCl (mtys tc) U ∧ va_D (fun _ => True) [(h0, .inr (0, [.null, .null, .null, .null, .null, .null, .null, .int 0]))] ∧ mm_nw U)) (va_Qv (fun _ : Unit => True) (fun _ t => ∃ (q1 q2 q3 q4 q5 q6 q7 : Nat), va_P (dC, dI) vwCl [(h0, .inr (0, [.ref q1, .ref q2, .ref q3, .ref q4, .ref q5, .ref q6, .ref q7, .int 0])), (q1, .inl (tc 0, 70, .inl (fun _ => 0))), (q2, .inl (tc 0, 70, .inl (fun _ => 0))), (q3, .inl (tc 0, 70, .inl (fun _ => 0))), (q4, .inl (tc 0, 70, .inl (fun _ => 0))), (q5, .inl (tc 0, 70, .inl (fun _ => 0))), (q6, .inl (tc 0, 70, .inl (fun _ => 0))), (q7, .inl (tc 0, 70, .inl (fun _ => 0)))] t.heap ∧ va_D (va_A [(h0, .inr (0, [.null, .null, .null, .null, .null, .null, .null, .int 0]))] sz) [(h0, .inr (0, [.ref q1, .ref q2, .ref q3, .ref q4, .ref q5, .ref q6, .ref q7, .int 0])), (q1, .inl (tc 0, 70, .inl (fun _ => 0))), (q2, .inl (tc 0, 70, .inl (fun _ => 0))), (q3, .inl (tc 0, 70, .inl (fun _ => 0))), (q4, .inl (tc 0, 70, .inl (fun _ => 0))), (q5, .inl (tc 0, 70, .inl (fun _ => 0))), (q6, .inl (tc 0, 70, .inl (fun _ => 0))), (q7, .inl (tc 0, 70, .inl (fun _ => 0)))]) (va_A [(h0, .inr (0, [.null, .null, .null, .null, .null, .null, .null, .int 0]))] sz)) 7 490 (va_A [(h0, .inr (0, [.null, .null, .null, .null, .null, .null, .null, .int 0]))] sz) := by
  refine Met.ofW (cc := c_X0_init) (maxL := 1) (ret := none) (by decide) rfl ?_
  intro p e s m args below meth c s₁ B hml hv
  obtain ⟨rfl, hsz, hP, hK, hD0, hN⟩ := hv
  have hx := B.exec
  have hb := B.bytes
  have hr := B.returns
  have hts := atoms_spec (ws := w_X0_init) B.pre
  have hg : ∀ w ∈ mm_GW, w.before _ s = true := fun w h => hts w (List.mem_cons_of_mem _ h)
  have hown : s.vm.findClass RX0 = some m.cls := findClass_of_methodNamed B.named
  have hlocks := B.notSynchronized
  have hin : meth.name = "<init>" := (name_of_methodNamed B.named B.method).1
  subst hsz
  have hD := hD0.self (sz := s.heap.size)
  generalize hAe : va_A [(h0, .inr (0, [.null, .null, .null, .null, .null, .null, .null, .int 0]))] s.heap.size = A at hD ⊢
  have hA : ∀ q : Nat, s.heap.size ≤ q → A q := fun q h => by rw [← hAe]; exact Or.inr h
  have hS : va_S A s.heap s.heap [] := va_S.rf
  have hP : va_P (dC, dI) vwCl [(h0, .inr (0, [.null, .null, .null, .null, .null, .null, .null, .int 0]))] s.heap := hP
  have hl := lv_entry ([.ref h0]) (n := 1) (Nat.le_of_ble_eq_true rfl)
  rw [lg_entry_eq]
  generalize (lg_sl ([.ref h0]) ++ List.replicate (1 - (lg_sl ([.ref h0])).length) Slot.unset).toArray = ls at hl ⊢
  have hl : lv_has ls 1 [(0, .ref h0)] := hl
  refine lv_aload_n hx hb d_X0_init_0 rfl (lv_at hl 0 rfl) ?_
  refine W.objInit hx hb hown (hg _ k_308) (hg _ k_309) (hg _ kc_obj) rfl (by rw [hml]; exact hl.1) rfl d_X0_init_1 (Nat.le_of_ble_eq_true rfl) (Nat.le_of_ble_eq_true rfl) ?_
  refine W.eq (g2 := F0 m 4 ls []) rfl ?_
  refine lv_aload_n hx hb d_X0_init_4 rfl (lv_at hl 0 rfl) ?_
  refine lv_bipush (v := 70) hx hb d_X0_init_5 (by decide) ?_
  refine mm_newa (atype := .int) (ty := .int) (ti := 0) (a0 := (70, .inl (fun _ => 0))) hx hb (hg _ k_310) rfl hK hP hD hS hA rfl (fun _ => mm_arr0i _ _) (by decide) (N' := 70) (by decide) (by decide) (Nat.le_of_ble_eq_true rfl) (Nat.le_of_ble_eq_true rfl) d_X0_init_7 (fun q1 H hP hD hS => ?_)
  have hP : va_P (dC, dI) vwCl [(h0, .inr (0, [.null, .null, .null, .null, .null, .null, .null, .int 0])), (q1, .inl (tc 0, 70, .inl (fun _ => 0)))] H := hP
  have hD : va_D A [(h0, .inr (0, [.null, .null, .null, .null, .null, .null, .null, .int 0])), (q1, .inl (tc 0, 70, .inl (fun _ => 0)))] := hD
  refine W.widen (k := 1) (n := 70) (by omega) (by omega) ?_
  refine va_putF (D := (dC, dI)) (ci := 0) (v := .ref q1) (ty := .array .int) (C := RX0) (T := TX0) (N := 8) hx hb hg in_X0 tyX0 tyX0_ok nmX0 hown hK hP hD hS 0 rfl rfl 0 (by decide) (hg _ k_21) (fun _ h9 => h9) rfl hin rfl (by decide +kernel) rfl rfl (Nat.le_of_ble_eq_true rfl) d_X0_init_9 (fun H locs hP hD hS => ?_)
  have hP : va_P (dC, dI) vwCl [(h0, .inr (0, [.ref q1, .null, .null, .null, .null, .null, .null, .int 0])), (q1, .inl (tc 0, 70, .inl (fun _ => 0)))] H := hP
  have hD : va_D A [(h0, .inr (0, [.ref q1, .null, .null, .null, .null, .null, .null, .int 0])), (q1, .inl (tc 0, 70, .inl (fun _ => 0)))] := hD
  refine lv_aload_n hx hb d_X0_init_12 rfl (lv_at hl 0 rfl) ?_
  refine lv_bipush (v := 70) hx hb d_X0_init_13 (by decide) ?_
  refine mm_newa (atype := .int) (ty := .int) (ti := 0) (a0 := (70, .inl (fun _ => 0))) hx hb (hg _ k_310) rfl hK hP hD hS hA rfl (fun _ => mm_arr0i _ _) (by decide) (N' := 70) (by decide) (by decide) (Nat.le_of_ble_eq_true rfl) (Nat.le_of_ble_eq_true rfl) d_X0_init_15 (fun q2 H hP hD hS => ?_)
  have hP : va_P (dC, dI) vwCl [(h0, .inr (0, [.ref q1, .null, .null, .null, .null, .null, .null, .int 0])), (q1, .inl (tc 0, 70, .inl (fun _ => 0))), (q2, .inl (tc 0, 70, .inl (fun _ => 0)))] H := hP
  have hD : va_D A [(h0, .inr (0, [.ref q1, .null, .null, .null, .null, .null, .null, .int 0])), (q1, .inl (tc 0, 70, .inl (fun _ => 0))), (q2, .inl (tc 0, 70, .inl (fun _ => 0)))] := hD
  refine W.widen (k := 2) (n := 140) (by omega) (by omega) ?_
  refine va_putF (D := (dC, dI)) (ci := 0) (v := .ref q2) (ty := .array .int) (C := RX0) (T := TX0) (N := 8) hx hb hg in_X0 tyX0 tyX0_ok nmX0 hown hK hP hD hS 0 rfl rfl 1 (by decide) (hg _ k_22) (fun _ h9 => h9) rfl hin rfl (by decide +kernel) rfl rfl (Nat.le_of_ble_eq_true rfl) d_X0_init_17 (fun H locs hP hD hS => ?_)
  have hP : va_P (dC, dI) vwCl [(h0, .inr (0, [.ref q1, .ref q2, .null, .null, .null, .null, .null, .int 0])), (q1, .inl (tc 0, 70, .inl (fun _ => 0))), (q2, .inl (tc 0, 70, .inl (fun _ => 0)))] H := hP
  have hD : va_D A [(h0, .inr (0, [.ref q1, .ref q2, .null, .null, .null, .null, .null, .int 0])), (q1, .inl (tc 0, 70, .inl (fun _ => 0))), (q2, .inl (tc 0, 70, .inl (fun _ => 0)))] := hD
  refine lv_aload_n hx hb d_X0_init_20 rfl (lv_at hl 0 rfl) ?_
  refine lv_bipush (v := 70) hx hb d_X0_init_21 (by decide) ?_
  refine mm_newa (atype := .int) (ty := .int) (ti := 0) (a0 := (70, .inl (fun _ => 0))) hx hb (hg _ k_310) rfl hK hP hD hS hA rfl (fun _ => mm_arr0i _ _) (by decide) (N' := 70) (by decide) (by decide) (Nat.le_of_ble_eq_true rfl) (Nat.le_of_ble_eq_true rfl) d_X0_init_23 (fun q3 H hP hD hS => ?_)
  have hP : va_P (dC, dI) vwCl [(h0, .inr (0, [.ref q1, .ref q2, .null, .null, .null, .null, .null, .int 0])), (q1, .inl (tc 0, 70, .inl (fun _ => 0))), (q2, .inl (tc 0, 70, .inl (fun _ => 0))), (q3, .inl (tc 0, 70, .inl (fun _ => 0)))] H := hP
  have hD : va_D A [(h0, .inr (0, [.ref q1, .ref q2, .null, .null, .null, .null, .null, .int 0])), (q1, .inl (tc 0, 70, .inl (fun _ => 0))), (q2, .inl (tc 0, 70, .inl (fun _ => 0))), (q3, .inl (tc 0, 70, .inl (fun _ => 0)))] := hD
  refine W.widen (k := 3) (n := 210) (by omega) (by omega) ?_
  refine va_putF (D := (dC, dI)) (ci := 0) (v := .ref q3) (ty := .array .int) (C := RX0) (T := TX0) (N := 8) hx hb hg in_X0 tyX0 tyX0_ok nmX0 hown hK hP hD hS 0 rfl rfl 2 (by decide) (hg _ k_23) (fun _ h9 => h9) rfl hin rfl (by decide +kernel) rfl rfl (Nat.le_of_ble_eq_true rfl) d_X0_init_25 (fun H locs hP hD hS => ?_)
  have hP : va_P (dC, dI) vwCl [(h0, .inr (0, [.ref q1, .ref q2, .ref q3, .null, .null, .null, .null, .int 0])), (q1, .inl (tc 0, 70, .inl (fun _ => 0))), (q2, .inl (tc 0, 70, .inl (fun _ => 0))), (q3, .inl (tc 0, 70, .inl (fun _ => 0)))] H := hP
  have hD : va_D A [(h0, .inr (0, [.ref q1, .ref q2, .ref q3, .null, .null, .null, .null, .int 0])), (q1, .inl (tc 0, 70, .inl (fun _ => 0))), (q2, .inl (tc 0, 70, .inl (fun _ => 0))), (q3, .inl (tc 0, 70, .inl (fun _ => 0)))] := hD
  refine lv_aload_n hx hb d_X0_init_28 rfl (lv_at hl 0 rfl) ?_
  refine lv_bipush (v := 70) hx hb d_X0_init_29 (by decide) ?_
  refine mm_newa (atype := .int) (ty := .int) (ti := 0) (a0 := (70, .inl (fun _ => 0))) hx hb (hg _ k_310) rfl hK hP hD hS hA rfl (fun _ => mm_arr0i _ _) (by decide) (N' := 70) (by decide) (by decide) (Nat.le_of_ble_eq_true rfl) (Nat.le_of_ble_eq_true rfl) d_X0_init_31 (fun q4 H hP hD hS => ?_)
  have hP : va_P (dC, dI) vwCl [(h0, .inr (0, [.ref q1, .ref q2, .ref q3, .null, .null, .null, .null, .int 0])), (q1, .inl (tc 0, 70, .inl (fun _ => 0))), (q2, .inl (tc 0, 70, .inl (fun _ => 0))), (q3, .inl (tc 0, 70, .inl (fun _ => 0))), (q4, .inl (tc 0, 70, .inl (fun _ => 0)))] H := hP
  have hD : va_D A [(h0, .inr (0, [.ref q1, .ref q2, .ref q3, .null, .null, .null, .null, .int 0])), (q1, .inl (tc 0, 70, .inl (fun _ => 0))), (q2, .inl (tc 0, 70, .inl (fun _ => 0))), (q3, .inl (tc 0, 70, .inl (fun _ => 0))), (q4, .inl (tc 0, 70, .inl (fun _ => 0)))] := hD
  refine W.widen (k := 4) (n := 280) (by omega) (by omega) ?_
  refine va_putF (D := (dC, dI)) (ci := 0) (v := .ref q4) (ty := .array .int) (C := RX0) (T := TX0) (N := 8) hx hb hg in_X0 tyX0 tyX0_ok nmX0 hown hK hP hD hS 0 rfl rfl 3 (by decide) (hg _ k_24) (fun _ h9 => h9) rfl hin rfl (by decide +kernel) rfl rfl (Nat.le_of_ble_eq_true rfl) d_X0_init_33 (fun H locs hP hD hS => ?_)
  have hP : va_P (dC, dI) vwCl [(h0, .inr (0, [.ref q1, .ref q2, .ref q3, .ref q4, .null, .null, .null, .int 0])), (q1, .inl (tc 0, 70, .inl (fun _ => 0))), (q2, .inl (tc 0, 70, .inl (fun _ => 0))), (q3, .inl (tc 0, 70, .inl (fun _ => 0))), (q4, .inl (tc 0, 70, .inl (fun _ => 0)))] H := hP
  have hD : va_D A [(h0, .inr (0, [.ref q1, .ref q2, .ref q3, .ref q4, .null, .null, .null, .int 0])), (q1, .inl (tc 0, 70, .inl (fun _ => 0))), (q2, .inl (tc 0, 70, .inl (fun _ => 0))), (q3, .inl (tc 0, 70, .inl (fun _ => 0))), (q4, .inl (tc 0, 70, .inl (fun _ => 0)))] := hD
  refine lv_aload_n hx hb d_X0_init_36 rfl (lv_at hl 0 rfl) ?_
  refine lv_bipush (v := 70) hx hb d_X0_init_37 (by decide) ?_
  refine mm_newa (atype := .int) (ty := .int) (ti := 0) (a0 := (70, .inl (fun _ => 0))) hx hb (hg _ k_310) rfl hK hP hD hS hA rfl (fun _ => mm_arr0i _ _) (by decide) (N' := 70) (by decide) (by decide) (Nat.le_of_ble_eq_true rfl) (Nat.le_of_ble_eq_true rfl) d_X0_init_39 (fun q5 H hP hD hS => ?_)
  have hP : va_P (dC, dI) vwCl [(h0, .inr (0, [.ref q1, .ref q2, .ref q3, .ref q4, .null, .null, .null, .int 0])), (q1, .inl (tc 0, 70, .inl (fun _ => 0))), (q2, .inl (tc 0, 70, .inl (fun _ => 0))), (q3, .inl (tc 0, 70, .inl (fun _ => 0))), (q4, .inl (tc 0, 70, .inl (fun _ => 0))), (q5, .inl (tc 0, 70, .inl (fun _ => 0)))] H := hP
  have hD : va_D A [(h0, .inr (0, [.ref q1, .ref q2, .ref q3, .ref q4, .null, .null, .null, .int 0])), (q1, .inl (tc 0, 70, .inl (fun _ => 0))), (q2, .inl (tc 0, 70, .inl (fun _ => 0))), (q3, .inl (tc 0, 70, .inl (fun _ => 0))), (q4, .inl (tc 0, 70, .inl (fun _ => 0))), (q5, .inl (tc 0, 70, .inl (fun _ => 0)))] := hD
  refine W.widen (k := 5) (n := 350) (by omega) (by omega) ?_
  refine va_putF (D := (dC, dI)) (ci := 0) (v := .ref q5) (ty := .array .int) (C := RX0) (T := TX0) (N := 8) hx hb hg in_X0 tyX0 tyX0_ok nmX0 hown hK hP hD hS 0 rfl rfl 4 (by decide) (hg _ k_12) (fun _ h9 => h9) rfl hin rfl (by decide +kernel) rfl rfl (Nat.le_of_ble_eq_true rfl) d_X0_init_41 (fun H locs hP hD hS => ?_)
  have hP : va_P (dC, dI) vwCl [(h0, .inr (0, [.ref q1, .ref q2, .ref q3, .ref q4, .ref q5, .null, .null, .int 0])), (q1, .inl (tc 0, 70, .inl (fun _ => 0))), (q2, .inl (tc 0, 70, .inl (fun _ => 0))), (q3, .inl (tc 0, 70, .inl (fun _ => 0))), (q4, .inl (tc 0, 70, .inl (fun _ => 0))), (q5, .inl (tc 0, 70, .inl (fun _ => 0)))] H := hP
  have hD : va_D A [(h0, .inr (0, [.ref q1, .ref q2, .ref q3, .ref q4, .ref q5, .null, .null, .int 0])), (q1, .inl (tc 0, 70, .inl (fun _ => 0))), (q2, .inl (tc 0, 70, .inl (fun _ => 0))), (q3, .inl (tc 0, 70, .inl (fun _ => 0))), (q4, .inl (tc 0, 70, .inl (fun _ => 0))), (q5, .inl (tc 0, 70, .inl (fun _ => 0)))] := hD
  refine lv_aload_n hx hb d_X0_init_44 rfl (lv_at hl 0 rfl) ?_
  refine lv_bipush (v := 70) hx hb d_X0_init_45 (by decide) ?_
  refine mm_newa (atype := .int) (ty := .int) (ti := 0) (a0 := (70, .inl (fun _ => 0))) hx hb (hg _ k_310) rfl hK hP hD hS hA rfl (fun _ => mm_arr0i _ _) (by decide) (N' := 70) (by decide) (by decide) (Nat.le_of_ble_eq_true rfl) (Nat.le_of_ble_eq_true rfl) d_X0_init_47 (fun q6 H hP hD hS => ?_)
  have hP : va_P (dC, dI) vwCl [(h0, .inr (0, [.ref q1, .ref q2, .ref q3, .ref q4, .ref q5, .null, .null, .int 0])), (q1, .inl (tc 0, 70, .inl (fun _ => 0))), (q2, .inl (tc 0, 70, .inl (fun _ => 0))), (q3, .inl (tc 0, 70, .inl (fun _ => 0))), (q4, .inl (tc 0, 70, .inl (fun _ => 0))), (q5, .inl (tc 0, 70, .inl (fun _ => 0))), (q6, .inl (tc 0, 70, .inl (fun _ => 0)))] H := hP
  have hD : va_D A [(h0, .inr (0, [.ref q1, .ref q2, .ref q3, .ref q4, .ref q5, .null, .null, .int 0])), (q1, .inl (tc 0, 70, .inl (fun _ => 0))), (q2, .inl (tc 0, 70, .inl (fun _ => 0))), (q3, .inl (tc 0, 70, .inl (fun _ => 0))), (q4, .inl (tc 0, 70, .inl (fun _ => 0))), (q5, .inl (tc 0, 70, .inl (fun _ => 0))), (q6, .inl (tc 0, 70, .inl (fun _ => 0)))] := hD
  refine W.widen (k := 6) (n := 420) (by omega) (by omega) ?_
  refine va_putF (D := (dC, dI)) (ci := 0) (v := .ref q6) (ty := .array .int) (C := RX0) (T := TX0) (N := 8) hx hb hg in_X0 tyX0 tyX0_ok nmX0 hown hK hP hD hS 0 rfl rfl 5 (by decide) (hg _ k_13) (fun _ h9 => h9) rfl hin rfl (by decide +kernel) rfl rfl (Nat.le_of_ble_eq_true rfl) d_X0_init_49 (fun H locs hP hD hS => ?_)
  have hP : va_P (dC, dI) vwCl [(h0, .inr (0, [.ref q1, .ref q2, .ref q3, .ref q4, .ref q5, .ref q6, .null, .int 0])), (q1, .inl (tc 0, 70, .inl (fun _ => 0))), (q2, .inl (tc 0, 70, .inl (fun _ => 0))), (q3, .inl (tc 0, 70, .inl (fun _ => 0))), (q4, .inl (tc 0, 70, .inl (fun _ => 0))), (q5, .inl (tc 0, 70, .inl (fun _ => 0))), (q6, .inl (tc 0, 70, .inl (fun _ => 0)))] H := hP
  have hD : va_D A [(h0, .inr (0, [.ref q1, .ref q2, .ref q3, .ref q4, .ref q5, .ref q6, .null, .int 0])), (q1, .inl (tc 0, 70, .inl (fun _ => 0))), (q2, .inl (tc 0, 70, .inl (fun _ => 0))), (q3, .inl (tc 0, 70, .inl (fun _ => 0))), (q4, .inl (tc 0, 70, .inl (fun _ => 0))), (q5, .inl (tc 0, 70, .inl (fun _ => 0))), (q6, .inl (tc 0, 70, .inl (fun _ => 0)))] := hD
  refine lv_aload_n hx hb d_X0_init_52 rfl (lv_at hl 0 rfl) ?_
  refine lv_bipush (v := 70) hx hb d_X0_init_53 (by decide) ?_
  refine mm_newa (atype := .int) (ty := .int) (ti := 0) (a0 := (70, .inl (fun _ => 0))) hx hb (hg _ k_310) rfl hK hP hD hS hA rfl (fun _ => mm_arr0i _ _) (by decide) (N' := 70) (by decide) (by decide) (Nat.le_of_ble_eq_true rfl) (Nat.le_of_ble_eq_true rfl) d_X0_init_55 (fun q7 H hP hD hS => ?_)
  have hP : va_P (dC, dI) vwCl [(h0, .inr (0, [.ref q1, .ref q2, .ref q3, .ref q4, .ref q5, .ref q6, .null, .int 0])), (q1, .inl (tc 0, 70, .inl (fun _ => 0))), (q2, .inl (tc 0, 70, .inl (fun _ => 0))), (q3, .inl (tc 0, 70, .inl (fun _ => 0))), (q4, .inl (tc 0, 70, .inl (fun _ => 0))), (q5, .inl (tc 0, 70, .inl (fun _ => 0))), (q6, .inl (tc 0, 70, .inl (fun _ => 0))), (q7, .inl (tc 0, 70, .inl (fun _ => 0)))] H := hP
  have hD : va_D A [(h0, .inr (0, [.ref q1, .ref q2, .ref q3, .ref q4, .ref q5, .ref q6, .null, .int 0])), (q1, .inl (tc 0, 70, .inl (fun _ => 0))), (q2, .inl (tc 0, 70, .inl (fun _ => 0))), (q3, .inl (tc 0, 70, .inl (fun _ => 0))), (q4, .inl (tc 0, 70, .inl (fun _ => 0))), (q5, .inl (tc 0, 70, .inl (fun _ => 0))), (q6, .inl (tc 0, 70, .inl (fun _ => 0))), (q7, .inl (tc 0, 70, .inl (fun _ => 0)))] := hD
  refine W.widen (k := 7) (n := 490) (by omega) (by omega) ?_
  refine va_putF (D := (dC, dI)) (ci := 0) (v := .ref q7) (ty := .array .int) (C := RX0) (T := TX0) (N := 8) hx hb hg in_X0 tyX0 tyX0_ok nmX0 hown hK hP hD hS 0 rfl rfl 6 (by decide) (hg _ k_14) (fun _ h9 => h9) rfl hin rfl (by decide +kernel) rfl rfl (Nat.le_of_ble_eq_true rfl) d_X0_init_57 (fun H locs hP hD hS => ?_)
  have hP : va_P (dC, dI) vwCl [(h0, .inr (0, [.ref q1, .ref q2, .ref q3, .ref q4, .ref q5, .ref q6, .ref q7, .int 0])), (q1, .inl (tc 0, 70, .inl (fun _ => 0))), (q2, .inl (tc 0, 70, .inl (fun _ => 0))), (q3, .inl (tc 0, 70, .inl (fun _ => 0))), (q4, .inl (tc 0, 70, .inl (fun _ => 0))), (q5, .inl (tc 0, 70, .inl (fun _ => 0))), (q6, .inl (tc 0, 70, .inl (fun _ => 0))), (q7, .inl (tc 0, 70, .inl (fun _ => 0)))] H := hP
  have hD : va_D A [(h0, .inr (0, [.ref q1, .ref q2, .ref q3, .ref q4, .ref q5, .ref q6, .ref q7, .int 0])), (q1, .inl (tc 0, 70, .inl (fun _ => 0))), (q2, .inl (tc 0, 70, .inl (fun _ => 0))), (q3, .inl (tc 0, 70, .inl (fun _ => 0))), (q4, .inl (tc 0, 70, .inl (fun _ => 0))), (q5, .inl (tc 0, 70, .inl (fun _ => 0))), (q6, .inl (tc 0, 70, .inl (fun _ => 0))), (q7, .inl (tc 0, 70, .inl (fun _ => 0)))] := hD
  have hP9 := hP.sub (ws' := [(h0, .inr (0, [.ref q1, .ref q2, .ref q3, .ref q4, .ref q5, .ref q6, .ref q7, .int 0])), (q1, .inl (tc 0, 70, .inl (fun _ => 0))), (q2, .inl (tc 0, 70, .inl (fun _ => 0))), (q3, .inl (tc 0, 70, .inl (fun _ => 0))), (q4, .inl (tc 0, 70, .inl (fun _ => 0))), (q5, .inl (tc 0, 70, .inl (fun _ => 0))), (q6, .inl (tc 0, 70, .inl (fun _ => 0))), (q7, .inl (tc 0, 70, .inl (fun _ => 0)))]) [0, 1, 2, 3, 4, 5, 6, 7] rfl
  have hD9 := hD.sub (ws' := [(h0, .inr (0, [.ref q1, .ref q2, .ref q3, .ref q4, .ref q5, .ref q6, .ref q7, .int 0])), (q1, .inl (tc 0, 70, .inl (fun _ => 0))), (q2, .inl (tc 0, 70, .inl (fun _ => 0))), (q3, .inl (tc 0, 70, .inl (fun _ => 0))), (q4, .inl (tc 0, 70, .inl (fun _ => 0))), (q5, .inl (tc 0, 70, .inl (fun _ => 0))), (q6, .inl (tc 0, 70, .inl (fun _ => 0))), (q7, .inl (tc 0, 70, .inl (fun _ => 0)))]) [0, 1, 2, 3, 4, 5, 6, 7] (by decide) rfl
  refine W.widen (k := 7) (n := 490) (by omega) (by omega) ?_
  exact W.vret hx hb hr (fun t ht hW => ⟨⟨(), rfl, trivial, q1, q2, q3, q4, q5, q6, q7, by rw [ht]; exact hP9, hD9⟩, hS.F ht⟩) hS.2.2 d_X0_init_60
